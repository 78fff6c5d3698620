/-! Trading: the class against the reference. -/
theorem gTrade_r (a : AS) (o q : Nat) (its : Int32) (k : Nat) (h : k ≠ 27) (h1 : k ≠ 34) (h2 : k < 36 ∨ 42 < k) (h3 : k ≠ 0) : gTrade a o q its k = a k := funext fun i => gTrade_k a o q its k i h h1 h2 (fun c => h3 c.1)
/-- executions that aren't yet have empty registers -/
def frE (a : AS) : Prop := ∀ e : Nat, tn (a 0 35) ≤ e → e < 100 → a 41 e = nI 0 ∧ a 42 e = nI 0 ∧ a 43 e = nI 0 ∧ a 43 (100 + e) = nI 0
/-- reports kept of executions speak of executions that are -/
def fOk (a : AS) : Prop := ∀ s i : Nat, s < 2 → i < tn (a 4 s) → a 11 (8192 * s + (i + 1)) = nI 8 → a 14 (8192 * s + (i + 1)) = nI 1 → ∀ f t : Nat, a 16 (8192 * s + (i + 1)) = nI f → a 17 (8192 * s + (i + 1)) = nI t → f + t ≤ 100 → f + t ≤ tn (a 0 35)
/-- executions from b on are at their first price -/
def npE (a : AS) (b : Nat) : Prop := ∀ e : Nat, b ≤ e → e < tn (a 0 35) → a 41 (100 + e) = a 40 e
theorem k_trade {w : Nat} {μ : MP} {ν : NC} {a : AS} {o d v e : Nat} {its x2 : Int32} {K : MP → NC → Nat → Int32 → Int32 → Option ((MP × NC) × Int32)} (hR : RR μ ν a) (ho : o < tn (a 0 22)) (hd : d < 2) (hv : v < 3) (h35 : a 0 35 = nI e) (he : e < 100) (hfr : frE a) (hf : fOk a) :
    ∃ (μ' : MP) (ν' : NC), b_X8_route_68 K w (nwExe μ ν o (μ.1 25 (3 * d + v) 0) its (μ.1 0 0 10) (μ.1 25 (3 * d + v) 1)).1 (nwExe μ ν o (μ.1 25 (3 * d + v) 0) its (μ.1 0 0 10) (μ.1 25 (3 * d + v) 1)).2 (o + 1) x2 (nI e) (3 * d + v + 1) its (ν.2 23 + 1) (5 + 1) = K μ' ν' (o + 1) x2 (nI (e + 1)) ∧ RR μ' ν' (gTrade a o (2 * v + d) its) ∧ ν'.2 6 = ν.2 6 ∧ ν'.2 20 = ν.2 20 ∧ ν'.2 23 = ν.2 23 + 1 ∧ ∀ c y : Int, RC c y ν → RC (c - 112) (y - 1991) ν' := by
  obtain ⟨o1, o2, o3, o4, o5, o6, o7, o8, o9, o10, o11⟩ := ordOf hR ho
  obtain ⟨h0, hF, h1, h2, h3, h4, h5, h6, h7, h8, h9⟩ := id hR
  obtain ⟨z0, z1, z2, z3, z4, z5, z10, z11, z12, z13, z24, z25, z30, z300, z31, z310, z68, z21⟩ := id h0
  obtain ⟨q1', q2'⟩ := h8 d hd
  obtain ⟨p1, p2, p3, p4⟩ := q2' v hv
  obtain ⟨y1, k, y2, y3, y4, y5, y6, y7, y8⟩ := id h7
  have hk : k = e := (nI_eq (by omega) (by omega)).mp (y2.symm.trans h35)
  subst hk
  have tn35 : tn (a 0 35) = k := by rw [h35, tnI (by omega)]
  rw [p2, p3]
  generalize hM : nwExe μ ν o (nI v) its (μ.1 0 0 10) (a 33 (2 * v + d)) = MN
  have m1 : ∀ i, i ≠ 23 → MN.1.1 i = μ.1 i := fun i hi => by rw [← hM]; funext j; simp (disch := omega) only [nwExe, up2_n]
  have m1n : ∀ j, j ≠ k → MN.1.1 23 j = μ.1 23 j := fun j hj => by rw [← hM]; simp (disch := omega) only [nwExe, y4, up2_n]
  have m1s : MN.1.1 23 k = xF (nI v) its (μ.1 0 0 10) (a 33 (2 * v + d)) := by rw [← hM]; simp (disch := omega) only [nwExe, y4, up2_s]
  have m2 : ∀ i, i ≠ 23 → MN.1.2 i = μ.2 i := fun i hi => by rw [← hM]; funext j; simp (disch := omega) only [nwExe, up3_n]
  have m2n : ∀ j, j ≠ k → MN.1.2 23 j = μ.2 23 j := fun j hj => by rw [← hM]; simp (disch := omega) only [nwExe, y4, up3_n]
  have m2s : MN.1.2 23 k 0 = o := by rw [← hM]; simp (disch := omega) only [nwExe, y4, up3_s, up1_s]
  have n1 : ∀ i, i ≠ 98 → MN.2.1 i = ν.1 i := fun i hi => by rw [← hM]; funext j; simp (disch := omega) only [nwExe, chg, up2_n]
  have n2 : ∀ i, i ≠ 23 → MN.2.2 i = ν.2 i := fun i hi => by rw [← hM]; simp (disch := omega) only [nwExe, chg, up1_n]
  have n2s : MN.2.2 23 = k + 1 := by rw [← hM]; simp (disch := omega) only [nwExe, chg, y4, up1_s]
  have nc : ∀ c y : Int, RC c y ν → RC (c - 112) (y - 1991) MN.2 := fun c y hC => by
    rw [← hM]
    obtain ⟨g1, g2⟩ := hC
    refine ⟨?_, ?_⟩
    · simp (disch := omega) only [kc, nwExe, chg, up2_n, up2_s, up1_s, up1_n] at g1 ⊢
      omega
    · simp (disch := omega) only [ks, nwExe, chg, up2_n, up2_s, up1_s, up1_n] at g2 ⊢
      omega
  clear hM
  have h0' : R0 MN.2 := by
    unfold R0
    rw [n1 30 (by decide), n1 31 (by decide), n2 0 (by decide), n2 1 (by decide), n2 2 (by decide), n2 3 (by decide), n2 4 (by decide), n2 5 (by decide), n2 10 (by decide), n2 11 (by decide), n2 12 (by decide), n2 13 (by decide), n2 24 (by decide), n2 25 (by decide), n2 30 (by decide), n2 31 (by decide), n2 6 (by decide), n2 8 (by decide), n2 21 (by decide), n2 20 (by decide)]
    exact h0
  have e55 : eK 5 5 = 23 := rfl
  obtain ⟨μ2, ν2, a1, a2, a3, a4, a5, a6, a7, a8, a9, a10, a11, a12, a13, a14, a15⟩ := k_add (w := w) (μ := MN.1) (ν := MN.2) (i := 5) (p := ν.2 23 + 1) (n := k) h0' (by decide) (by rw [m1 4 (by decide)]; exact y1.trans y2) (by omega) (by rw [n1 5 (by decide)]; exact y5) (by rw [n1 5 (by decide)]; exact y6) (by omega) (by rw [e55, n2s]; omega) (fun z => by rw [e55, n2s, m2 5 (by decide)]; have := y7 z; omega)
  rw [e55, n2s] at a5
  generalize hμ3 : uM (uM μ2 21 (2 * o + 1) 2 (a 27 (40 + o) + its)) 25 (3 * d + v) 2 (a 34 (2 * v + d) - its) = μ3
  have v1 : ∀ i, i ≠ 4 → i ≠ 21 → i ≠ 23 → i ≠ 25 → μ3.1 i = μ.1 i := fun i i1 i2 i3 i4 => by
    rw [← m1 i i3, ← a8 i i1, ← hμ3]; funext j; rw [uM_n _ _ _ (by omega), uM_n _ _ _ (by omega)]
  have v4 : ∀ j, j ≠ 5 → μ3.1 4 j = μ.1 4 j := fun j hj => by
    rw [← m1 4 (by decide), ← a9 j hj, ← hμ3, uM_n _ _ _ (by omega), uM_n _ _ _ (by omega)]
  have v45 : μ3.1 4 5 2 = nI (k + 1) := by rw [← hμ3, uM_n _ _ _ (by omega), uM_n _ _ _ (by omega)]; exact a2
  have v21n : ∀ j, j ≠ 2 * o + 1 → μ3.1 21 j = μ.1 21 j := fun j hj => by
    rw [← m1 21 (by decide), ← a8 21 (by decide), ← hμ3, uM_n _ _ _ (by omega), uM_n _ _ _ (by omega)]
  have v21s : μ3.1 21 (2 * o + 1) = up1 (μ.1 21 (2 * o + 1)) 2 (a 27 (40 + o) + its) := by
    rw [← m1 21 (by decide), ← a8 21 (by decide), ← hμ3, uM_n _ _ _ (by omega), uM_s]
  have v23n : ∀ j, j ≠ k → μ3.1 23 j = μ.1 23 j := fun j hj => by
    rw [← m1n j hj, ← a8 23 (by decide), ← hμ3, uM_n _ _ _ (by omega), uM_n _ _ _ (by omega)]
  have v23s : μ3.1 23 k = xF (nI v) its (μ.1 0 0 10) (a 33 (2 * v + d)) := by
    rw [← m1s, ← a8 23 (by decide), ← hμ3, uM_n _ _ _ (by omega), uM_n _ _ _ (by omega)]
  have v25n : ∀ j, j ≠ 3 * d + v → μ3.1 25 j = μ.1 25 j := fun j hj => by
    rw [← m1 25 (by decide), ← a8 25 (by decide), ← hμ3, uM_n _ _ _ (by omega), uM_n _ _ _ (by omega)]
  have v25s : μ3.1 25 (3 * d + v) = up1 (μ.1 25 (3 * d + v)) 2 (a 34 (2 * v + d) - its) := by
    rw [← m1 25 (by decide), ← a8 25 (by decide), ← hμ3, uM_s, uM_n _ _ _ (by omega)]
  have vp : μ3.2 = μ2.2 := by rw [← hμ3]; rfl
  have vp' : ∀ i, i ≠ 5 → i ≠ 23 → μ3.2 i = μ.2 i := fun i i1 i2 => by rw [vp, a10 i i1, m2 i i2]
  have vp5 : ∀ j, j ≠ 5 → μ3.2 5 j = μ.2 5 j := fun j hj => by rw [vp, a11 j hj, m2 5 (by decide)]
  have vp23n : ∀ j, j ≠ k → μ3.2 23 j = μ.2 23 j := fun j hj => by rw [vp, a10 23 (by decide), m2n j hj]
  have vp23s : μ3.2 23 k 0 = o := by rw [vp, a10 23 (by decide)]; exact m2s
  have w1 : ∀ i, i ≠ 5 → i ≠ 98 → ν2.1 i = ν.1 i := fun i i1 i2 => by rw [a13 i i1 i2, n1 i i2]
  have w15 : ∀ j, j ≠ 5 → ν2.1 5 j = ν.1 5 j := fun j hj => by rw [a14 j hj, n1 5 (by decide)]
  have w2 : ∀ i, i ≠ 23 → ν2.2 i = ν.2 i := fun i hi => by rw [a12, n2 i hi]
  have w23 : ν2.2 23 = k + 1 := by rw [a12, n2s]
  have g0 : ∀ i, i ≠ 35 → gTrade a o (2 * v + d) its 0 i = a 0 i := fun i hi => gTrade_k _ _ _ _ _ _ (by decide) (by decide) (by decide) (by omega)
  have gr : ∀ i, i ≠ 27 ∧ i ≠ 34 ∧ (i < 36 ∨ 42 < i) ∧ i ≠ 0 → gTrade a o (2 * v + d) its i = a i := fun i hi => gTrade_r _ _ _ _ _ hi.1 hi.2.1 hi.2.2.1 hi.2.2.2
  have ge : ∀ i j, i = 36 ∨ i = 37 ∨ i = 38 ∨ i = 39 ∨ i = 40 ∨ i = 41 ∨ i = 42 → j ≠ k → j ≠ 100 + k → gTrade a o (2 * v + d) its i j = a i j := fun i j hi j1 j2 => by
    unfold gTrade
    rw [tn35]
    simp (disch := omega) only [up2_n]
  refine ⟨μ3, ν2, ?_, ?_, by rw [w2 6 (by decide)], by rw [w2 20 (by decide)], by rw [w23]; omega, fun c y hC => a15 _ _ (nc c y hC)⟩
  · unfold b_X8_route_68
    rw [nzs, Nat.add_sub_cancel, n2 4 (by decide), n2 0 (by decide), n2 20 (by decide), n2 25 (by decide), ltt (show 5 < ν.2 4 by omega), ltt z0, e55, eqs, decide_eq_true (show o + 1 ≤ ν.2 20 by omega), decide_eq_true (show 3 * d + v + 1 ≤ ν.2 25 by omega)]
    simp only [cond_true, a1, Option.bind_some]
    unfold b_X8_route_71
    rw [nzs, nzs, Nat.add_sub_cancel, Nat.add_sub_cancel, w2 20 (by decide), w2 21 (by decide), w2 25 (by decide), ltt o1, ltt o2, ltt (show 3 * d + v < ν.2 25 by omega)]
    simp only [cond_true, yl]
    rw [q1, nI_add, a8 21 (by decide), m1 21 (by decide), uM_n _ _ _ (by omega), a8 25 (by decide), m1 25 (by decide), p4]
    have := (o11 1 (by decide)).2.2.1
    rw [show 40 * 1 + o = 40 + o by omega] at this
    rw [this, hμ3]
  · refine ⟨?_, ?_, ?_, ?_, ?_, ?_, ?_, ?_, ?_, ?_, ?_⟩
    · unfold R0
      rw [w1 30 (by decide) (by decide), w1 31 (by decide) (by decide), w2 0 (by decide), w2 1 (by decide), w2 2 (by decide), w2 3 (by decide), w2 4 (by decide), w2 5 (by decide), w2 10 (by decide), w2 11 (by decide), w2 12 (by decide), w2 13 (by decide), w2 24 (by decide), w2 25 (by decide), w2 30 (by decide), w2 31 (by decide), w2 6 (by decide), w2 8 (by decide), w2 21 (by decide), w2 20 (by decide)]
      exact h0
    · intro κ hκ k' i' j hk' hi'
      have hle : ν.2 κ ≤ ν2.2 κ := by
        by_cases c : κ = 23
        · subst c; rw [w23]; omega
        · rw [w2 κ c]; exact Nat.le_refl _
      by_cases c5 : k' = 5
      · subst c5
        by_cases ci : i' = 5
        · subst ci
          have : κ = 23 := hi'.symm
          subst this
          rw [w23, vp]
          exact a5 j
        · rw [vp5 i' ci]
          exact Nat.le_trans (hF κ hκ 5 i' j hk' hi') hle
      · have c23 : k' ≠ 23 := fun c => by subst c; rcases hk' with h | h <;> exact absurd h (by decide)
        rw [vp' k' c5 c23]
        exact Nat.le_trans (hF κ hκ k' i' j hk' hi') hle
    · rw [v1 0 (by decide) (by decide) (by decide) (by decide), g0 2 (by decide), g0 1 (by decide), g0 44 (by decide)]
      exact h1
    · rw [v1 1 (by decide) (by decide) (by decide) (by decide), g0 2 (by decide), gr 3 (by decide), gr 5 (by decide), gr 7 (by decide), gr 8 (by decide), gr 9 (by decide), gr 10 (by decide)]
      exact h2
    · rw [v1 6 (by decide) (by decide) (by decide) (by decide), v1 8 (by decide) (by decide) (by decide) (by decide), w1 8 (by decide) (by decide), w2 6 (by decide), gr 4 (by decide), gr 11 (by decide), gr 12 (by decide), gr 13 (by decide), gr 14 (by decide), gr 15 (by decide), gr 16 (by decide), gr 17 (by decide)]
      refine ⟨fun s hs => ?_, fun s s' i i' hs hs' hi hi' hp => ?_⟩
      · obtain ⟨x1, n, x2, x3, x4, x5, x6, x7⟩ := h3.1 s hs
        rw [v4 s (by omega), vp5 s (by omega), w15 s (by omega)]
        refine ⟨x1, n, x2, x3, x4, x5, x6, fun i hi => ?_⟩
        obtain ⟨m, t1, t2, t3⟩ := x7 i hi
        refine ⟨m, t1, t2, msgRel_congr t3 rfl rfl rfl rfl rfl rfl rfl (fun f t ef et hft k8 k1 j hj => ?_)⟩
        have hb : f + t ≤ k := by
          rw [← tn35]
          exact hf s i hs (by rw [x2, tnI (by omega)]; exact hi) k8 k1 f t ef et hft
        exact ⟨ge 37 _ (by decide) (by omega) (by omega), ge 39 _ (by decide) (by omega) (by omega), ge 40 _ (by decide) (by omega) (by omega)⟩
      · rw [vp5 s (by omega), vp5 s' (by omega)] at hp
        exact h3.2 s s' i i' hs hs' hi hi' hp
    · rw [v1 2 (by decide) (by decide) (by decide) (by decide), v1 10 (by decide) (by decide) (by decide) (by decide), v1 11 (by decide) (by decide) (by decide) (by decide), v1 12 (by decide) (by decide) (by decide) (by decide), w1 10 (by decide) (by decide), w1 11 (by decide) (by decide), w1 12 (by decide) (by decide), gr 19 (by decide), gr 20 (by decide), gr 21 (by decide)]
      exact h4
    · rw [v1 3 (by decide) (by decide) (by decide) (by decide), v1 13 (by decide) (by decide) (by decide) (by decide), w1 13 (by decide) (by decide), gr 5 (by decide), gr 6 (by decide), gr 18 (by decide)]
      exact h5
    · obtain ⟨x1, n, x2, x3, x4, x5, x6, x7, x8⟩ := h6
      rw [g0 22 (by decide), w2 20 (by decide), v1 20 (by decide) (by decide) (by decide) (by decide), gr 23 (by decide), gr 24 (by decide), gr 25 (by decide), gr 26 (by decide), gr 28 (by decide), gr 29 (by decide), gr 30 (by decide)]
      refine ⟨by rw [v4 2 (by decide)]; exact x1, n, x2, x3, x4, by rw [w15 2 (by decide)]; exact x5, by rw [w15 2 (by decide)]; exact x6, by rw [vp5 2 (by decide)]; exact x7, fun o' ho' => ?_⟩
      obtain ⟨t1, t2, t3, t4, t5, t6, t7, t8, t9⟩ := x8 o' ho'
      refine ⟨by rw [vp5 2 (by decide)]; exact t1, t2, t3, t4, t5, t6, t7, t8, fun z hz => ?_⟩
      obtain ⟨u1, u2, u3, u4⟩ := t9 z hz
      have eg : ∀ j, j ≠ 40 + o → gTrade a o (2 * v + d) its 27 j = a 27 j := fun j hj => by
        unfold gTrade
        simp (disch := omega) only [up2_n]
      by_cases c : 2 * o' + z = 2 * o + 1
      · have c1 : z = 1 := by omega
        have c2 : o' = o := by omega
        subst c1; subst c2
        rw [v21s, up1_n _ _ (by decide), up1_n _ _ (by decide), up1_s, up1_n _ _ (by decide)]
        refine ⟨u1, u2, ?_, u4⟩
        unfold gTrade
        simp (disch := omega) only [up2_n, up2_s]
      · rw [v21n _ c, eg _ (by omega)]
        exact ⟨u1, u2, u3, u4⟩
    · rw [g0 22 (by decide), w23, gr 43 (by decide)]
      refine ⟨by rw [v45, gTrade_e _ _ _ _ _ h35 he], k + 1, gTrade_e _ _ _ _ _ h35 he, by omega, rfl, a6, a7, by rw [vp]; exact a5, fun e' he' => ?_⟩
      by_cases c : e' = k
      · subst c
        obtain ⟨r1, r2, r3, r4⟩ := hfr e' (by omega) he
        rw [vp, a4, ← vp, vp23s, v23s]
        refine ⟨by omega, ?_, ho, ?_, ?_, ?_, ?_, ?_, ?_, ?_, ?_, ?_, v, ?_, hv⟩
        · unfold gTrade; rw [tn35]; simp (disch := omega) only [up2_n, up2_s]
        · unfold gTrade; rw [tn35]; simp (disch := omega) only [up2_n, up2_s]
          show nI v = _
          rw [show (2 * v + d) / 2 = v by omega]
        · unfold gTrade; rw [tn35]; simp (disch := omega) only [up2_n, up2_s]
          rfl
        · unfold gTrade; rw [tn35]; simp (disch := omega) only [up2_n, up2_s]
          exact h1.2.2.1
        · unfold gTrade; rw [tn35]; simp (disch := omega) only [up2_n, up2_s]
          rfl
        · exact r4.symm
        · have : gTrade a o (2 * v + d) its 42 e' = a 42 e' := by unfold gTrade; rw [tn35]; simp (disch := omega) only [up2_n]
          rw [this]; exact r2.symm
        · have : gTrade a o (2 * v + d) its 41 e' = a 41 e' := by unfold gTrade; rw [tn35]; simp (disch := omega) only [up2_n]
          rw [this]; exact r1.symm
        · exact r3.symm
        · unfold gTrade; rw [tn35]; simp (disch := omega) only [up2_n, up2_s]
        · unfold gTrade; rw [tn35]; simp (disch := omega) only [up2_n, up2_s]
          rw [show (2 * v + d) / 2 = v by omega]
      · obtain ⟨t1, t2, t3, t4, t5, t6, t7, t8, t9, t10, t11, t12, t13⟩ := y8 e' (by omega)
        rw [vp, a3 e' (by omega), m2 5 (by decide), ← vp, vp23n e' c, v23n e' c, ge 36 e' (by decide) c (by omega), ge 37 e' (by decide) c (by omega), ge 38 e' (by decide) c (by omega), ge 39 e' (by decide) c (by omega), ge 41 e' (by decide) c (by omega), ge 41 (100 + e') (by decide) (by omega) (by omega), ge 42 e' (by decide) c (by omega), ge 42 (100 + e') (by decide) (by omega) (by omega)]
        exact ⟨t1, t2, t3, t4, t5, t6, t7, t8, t9, t10, t11, t12, t13⟩
    · rw [gr 33 (by decide), vp' 24 (by decide) (by decide), w1 24 (by decide) (by decide)]
      intro d' hd'
      obtain ⟨t1, t2⟩ := h8 d' hd'
      refine ⟨t1, fun v' hv' => ?_⟩
      obtain ⟨u1, u2, u3, u4⟩ := t2 v' hv'
      by_cases c : 3 * d' + v' = 3 * d + v
      · have c1 : d' = d := by omega
        have c2 : v' = v := by omega
        subst c1; subst c2
        rw [v25s, up1_n _ _ (by decide), up1_n _ _ (by decide), up1_s]
        refine ⟨u1, u2, u3, ?_⟩
        unfold gTrade
        rw [up2_s]
      · rw [v25n _ c]
        refine ⟨u1, u2, u3, u4.trans ?_⟩
        unfold gTrade
        simp (disch := omega) only [up2_n]
    · rw [g0 22 (by decide), g0 32 (by decide), gr 23 (by decide), gr 24 (by decide), gr 25 (by decide), gr 31 (by decide), w2 20 (by decide)]
      exact R9_of h9 (fun d' hd' => v4 _ (by omega)) (fun d' hd' => vp5 _ (by omega)) (fun d' hd' => w15 _ (by omega))
