/-! The line goes up, is cut, is garbled: the class against the reference. -/
theorem RR_clr {μ : MP} {ν : NC} {a : AS} {s : Nat} (hR : RR μ ν a) (hs : s < 2) : ∃ μ' : MP, ls_clear μ ν s = some (μ', 0) ∧ RR μ' ν (up2 a 4 s (nI 0)) := by
  obtain ⟨h0, hF, h1, h2, h3, h4, h5, h6, h7, h8, h9⟩ := id hR
  obtain ⟨z0, z1, z2, z3, z4, z5, -⟩ := id h0
  obtain ⟨x1, n, x2, x3, x4, x5, x6, x7⟩ := h3.1 s hs
  have hok : ls_ok μ ν s = true := by
    unfold ls_ok
    rw [x1, x2, nI_clamp (by omega)]
    simp only [Bool.and_eq_true, decide_eq_true_eq, Bool.not_eq_true', decide_eq_false_iff_not]
    exact ⟨⟨⟨⟨by omega, by omega⟩, nIb _ (by omega)⟩, by omega⟩, by omega⟩
  generalize hμ' : ((up3 (up3 μ.1 4 s 0 (μ.1 4 s 0 + 1)) 4 s 2 0, up2 μ.2 5 s (cl0 (μ.2 5 s) (μ.1 4 s 2).toNatClampNeg)) : MP) = μ'
  have m1 : ∀ k, k ≠ 4 → μ'.1 k = μ.1 k := fun k hk => by rw [← hμ']; funext j; simp (disch := omega) only [up3_n]
  have m4 : ∀ j, j ≠ s → μ'.1 4 j = μ.1 4 j := fun j hj => by rw [← hμ']; simp (disch := omega) only [up3_n]
  have m42 : μ'.1 4 s 2 = nI 0 := by rw [← hμ']; simp (disch := omega) only [up3_s, up1_s]; rfl
  have p1 : ∀ k, k ≠ 5 → μ'.2 k = μ.2 k := fun k hk => by rw [← hμ']; funext j; simp (disch := omega) only [up2_n]
  have p5 : ∀ j, j ≠ s → μ'.2 5 j = μ.2 5 j := fun j hj => by rw [← hμ']; simp (disch := omega) only [up2_n]
  have p5s : ∀ z, μ'.2 5 s z = 0 ∨ μ'.2 5 s z = μ.2 5 s z := fun z => by
    rw [← hμ']
    simp (disch := omega) only [up2_s]
    unfold cl0
    split
    · exact Or.inl rfl
    · exact Or.inr rfl
  refine ⟨μ', ?_, ?_⟩
  · unfold ls_clear
    rw [hok, hμ']
    rfl
  · refine ⟨h0, ?_, ?_, ?_, ?_, ?_, ?_, ?_, ?_, ?_, ?_⟩
    · intro κ hκ k' i' j hk' hi'
      by_cases c : k' = 5
      · subst c
        by_cases ci : i' = s
        · subst ci
          rcases p5s j with e | e
          · rw [e]; exact Nat.zero_le _
          · rw [e]; exact hF κ hκ 5 i' j hk' hi'
        · rw [p5 i' ci]; exact hF κ hκ 5 i' j hk' hi'
      · rw [p1 k' c]; exact hF κ hκ k' i' j hk' hi'
    · rw [m1 0 (by decide)]; exact h1
    · rw [m1 1 (by decide)]; exact h2
    · rw [m1 6 (by decide), m1 8 (by decide)]
      have e4 : ∀ t, t ≠ s → up2 a 4 s (nI 0) 4 t = a 4 t := fun t ht => up2_n _ _ (by omega)
      have e4s : up2 a 4 s (nI 0) 4 s = nI 0 := up2_s _ _ _ _
      refine ⟨fun t ht => ?_, fun t t' i i' ht ht' hi hi' hp => ?_⟩
      · by_cases c : t = s
        · subst c
          refine ⟨m42.trans e4s.symm, 0, e4s, by omega, by omega, x5, fun z => ?_, fun i hi => by omega⟩
          rcases p5s z with e | e
          · rw [e]; exact Nat.zero_le _
          · rw [e]; exact x6 z
        · rw [m4 t c, p5 t c, e4 t c]
          exact h3.1 t ht
      · have h0n : tn (nI 0) = 0 := rfl
        have c : t ≠ s := fun c => by subst c; rw [e4s, h0n] at hi; omega
        have c' : t' ≠ s := fun c => by subst c; rw [e4s, h0n] at hi'; omega
        rw [e4 t c] at hi
        rw [e4 t' c'] at hi'
        rw [p5 t c, p5 t' c'] at hp
        exact h3.2 t t' i i' ht ht' hi hi' hp
    · rw [m1 2 (by decide), m1 10 (by decide), m1 11 (by decide), m1 12 (by decide)]; exact h4
    · rw [m1 3 (by decide), m1 13 (by decide)]; exact h5
    · rw [m1 20 (by decide), m1 21 (by decide)]
      exact R6_of h6 (m4 2 (by omega)) (p5 2 (by omega)) rfl
    · rw [m1 23 (by decide), p1 23 (by decide)]
      exact R7_of h7 (m4 5 (by omega)) (p5 5 (by omega)) rfl
    · rw [p1 24 (by decide), m1 25 (by decide)]; exact h8
    · exact R9_of h9 (fun d hd => m4 _ (by omega)) (fun d hd => p5 _ (by omega)) (fun _ _ => rfl)
theorem k_anew {w s : Nat} {μ : MP} {ν : NC} {a : AS} (hR : RR μ ν a) (hs : s < 2) : ∃ μ' : MP, f_X5_numberAnew w μ ν s = some (μ', 0) ∧ RR μ' ν (up2 (up2 a 4 s (nI 0)) 5 s (nI 1)) := by
  obtain ⟨μ1, t1, t2⟩ := RR_clr hR hs
  have z1 := hR.1.2.1
  have z4 := hR.1.2.2.2.2.1
  refine ⟨uM μ1 1 s 4 (nI 1), ?_, RR_exp (e := 1) t2 hs (by decide) (by decide)⟩
  unfold f_X5_numberAnew
  rw [ltt (show s < ν.2 1 by omega), ltt (show s < ν.2 4 by omega), t1]
  rfl
theorem st_eq {A B : AS} (h0 : A 0 = B 0) (h4 : A 4 = B 4) (h5 : A 5 = B 5) (h9 : A 9 = B 9) (h10 : A 10 = B 10) (hn : ∀ k, k ≠ 0 → k ≠ 4 → k ≠ 5 → k ≠ 9 → k ≠ 10 → A k = B k) : A = B := by
  funext k
  by_cases c0 : k = 0
  · subst c0; exact h0
  · by_cases c4 : k = 4
    · subst c4; exact h4
    · by_cases c5 : k = 5
      · subst c5; exact h5
      · by_cases c9 : k = 9
        · subst c9; exact h9
        · by_cases c10 : k = 10
          · subst c10; exact h10
          · exact hn k c0 c4 c5 c9 c10
theorem up2_c {A B : AS} {k' i' : Nat} {v : Int32} (h : ∀ k, k ≠ 9 → A k = B k) : ∀ k, k ≠ 9 → up2 A k' i' v k = up2 B k' i' v k := fun k hk => by
  unfold up2
  by_cases c : k = k'
  · subst c
    rw [up1_s, up1_s, h k hk]
  · rw [up1_n _ _ c, up1_n _ _ c, h k hk]
theorem gSends_9 {A B : AS} {s : Nat} {kd o1 o2 o3 o4 : Int32} (h : ∀ k, k ≠ 9 → A k = B k) (hup : B 0 2 ≠ nI 0) : ∀ k i, ¬ (k = 9 ∧ i ≠ s) → gSends A s kd o1 o2 o3 o4 k i = gSends B s kd o1 o2 o3 o4 k i := by
  intro k i hk
  have hA : ¬ A 0 2 = 0 := by rw [h 0 (by decide)]; exact hup
  unfold gSends
  rw [if_neg hA, if_neg (show ¬ B 0 2 = 0 from hup), h 4 (by decide)]
  have hK : ∀ k, k ≠ 9 → gKeep A s kd o1 o2 o3 o4 k = gKeep B s kd o1 o2 o3 o4 k := fun k hk => by
    unfold gKeep
    rw [h 4 (by decide), h 0 (by decide)]
    exact up2_c (up2_c (up2_c (up2_c (up2_c (up2_c (up2_c (up2_c h))))))) k hk
  unfold gGoes pl
  rw [hK 20 (by decide), hK 19 (by decide), hK 0 (by decide)]
  by_cases c9 : k = 9
  · have hi : i = s := Classical.byContradiction fun c => hk ⟨c9, c⟩
    subst c9; subst hi
    rw [up2_s, up2_s]
  · have := hK k c9
    simp (disch := omega) only [up2_n _ _ (show ¬ (k = 9 ∧ i = s) from fun h => c9 h.1)]
    by_cases c20 : k = 20 ∧ i = 1 - s
    · obtain ⟨rfl, rfl⟩ := c20
      rw [up2_s, up2_s]
    · rw [up2_n _ _ c20, up2_n _ _ c20]
      generalize 65536 * (1 - s) + (tn (gKeep B s kd o1 o2 o3 o4 19 (1 - s)) + tn (gKeep B s kd o1 o2 o3 o4 20 (1 - s))) % 65536 = z
      by_cases c21 : k = 21 ∧ i = z
      · obtain ⟨rfl, rfl⟩ := c21
        rw [up2_s, up2_s]
      · rw [up2_n _ _ c21, up2_n _ _ c21, this]
/-- going up, with numbers as they are -/
theorem k_con35 {w : Nat} {μ : MP} {ν : NC} {a b : AS} (hR : RR μ ν a) (hb : b = up2 (up2 (up2 (up2 (up2 a 9 0 (a 0 1)) 10 0 (a 0 1)) 9 1 (a 0 1)) 10 1 (a 0 1)) 0 2 (nI 1)) (r0 : roomS a 0 1) (r1 : roomS a 1 1) :
    ∃ (μ' : MP) (ν' : NC), b_X8_connect_35 w μ ν = some ((μ', ν'), 0) ∧ RR μ' ν' (gSends (gSends b 0 (nI 0) (nI 0) (nI 0) (nI 0) (nI 0)) 1 (nI 0) (nI 0) (nI 0) (nI 0) (nI 0)) ∧ ν'.2 20 = ν.2 20 ∧ bal ν' (gSends (gSends b 0 (nI 0) (nI 0) (nI 0) (nI 0) (nI 0)) 1 (nI 0) (nI 0) (nI 0) (nI 0) (nI 0)) = bal ν a ∧ ∀ c y : Int, RC c y ν → RC c y ν' := by
  obtain ⟨z0, z1, z2, -⟩ := id hR.1
  have hnow : μ.1 0 0 9 = a 0 1 := hR.2.2.1.2.1
  -- the line is up, the times of what came are anew; what was sent last as the class has it
  have hR1 : RR (uM μ 0 0 8 1) ν (up2 (up2 (up2 a 9 0 (μ.1 1 0 7)) 9 1 (μ.1 1 1 7)) 0 2 (nI 1)) := by
    obtain ⟨g0, gF, g1, g2, g3, g4, g5, g6, g7, g8, g9⟩ := hR
    refine ⟨g0, gF, ⟨rfl, g1.2.1, g1.2.2.1, Or.inr rfl⟩, fun s hs => ?_, g3, g4, g5, g6, g7, g8, g9⟩
    obtain ⟨x1, x2, x3, x4, x5, x6, x7⟩ := g2 s hs
    refine ⟨x1, x2, x3, x4, x5, fun _ => ?_, x7⟩
    rcases (show s = 0 ∨ s = 1 by omega) with rfl | rfl <;> rfl
  have hR2 := RR_p8 (s := 1) (v := a 0 1) (RR_p8 (s := 0) (v := a 0 1) hR1 (by decide)) (by decide)
  generalize hA : up2 (up2 (up2 (up2 (up2 a 9 0 (μ.1 1 0 7)) 9 1 (μ.1 1 1 7)) 0 2 (nI 1)) 10 0 (a 0 1)) 10 1 (a 0 1) = A at hR2
  have hAB : ∀ k, k ≠ 9 → A k = b k := fun k hk => by
    rw [← hA, hb]
    by_cases c : k = 0
    · subst c; rfl
    · by_cases c1 : k = 10
      · subst c1; rfl
      · funext i
        simp (disch := omega) only [up2_n]
  have b02 : b 0 2 ≠ nI 0 := by rw [hb, up2_s]; decide
  have hA4 : A 4 = a 4 := by rw [← hA]; rfl
  have hA20 : A 20 = a 20 := by rw [← hA]; rfl
  obtain ⟨μ1, ν1, t1, t2, t3, t4, t5, t6⟩ := k_sendN (w := w) (s := 0) (k := 0) hR2 (by decide) (roomS_of r0 (by rw [hA4]) (by rw [hA20])) (by decide)
  have hAB1 := gSends_9 (s := 0) (kd := nI 0) (o1 := nI 0) (o2 := nI 0) (o3 := nI 0) (o4 := nI 0) hAB b02
  generalize hA1 : gSends A 0 (nI 0) (nI 0) (nI 0) (nI 0) (nI 0) = A1 at t2 hAB1
  generalize hB1 : gSends b 0 (nI 0) (nI 0) (nI 0) (nI 0) (nI 0) = B1 at hAB1 ⊢
  have f4 : A1 4 1 = a 4 1 := by rw [← hA1, gSends_4o _ _ _ _ _ _ (by decide), hA4]
  have f20 : A1 20 (1 - 1) = a 20 (1 - 1) := by
    rw [← hA1, ← hA20]
    unfold gSends
    split
    · exact gKeep_k _ _ _ _ _ _ _ _ _ (by decide) (by decide)
    · unfold gGoes
      rw [up2_n _ _ (by omega), up2_n _ _ (by omega), up2_n _ _ (by omega)]
      exact gKeep_k _ _ _ _ _ _ _ _ _ (by decide) (by decide)
  have rA1 : roomS A1 1 1 := roomS_of r1 f4 f20
  obtain ⟨μ2, ν2, u1, u2, u3, u4, u5, u6⟩ := k_sendN (w := w) (s := 1) (k := 0) t2 (by decide) rA1 (by decide)
  have b102 : B1 0 2 ≠ nI 0 := by
    rw [← hB1, gSends_k _ _ _ _ _ _ _ _ _ (by decide) (by decide) (by decide) (by decide) (by decide)]; exact b02
  have hfin : gSends A1 1 (nI 0) (nI 0) (nI 0) (nI 0) (nI 0) = gSends B1 1 (nI 0) (nI 0) (nI 0) (nI 0) (nI 0) := by
    have h9 := gSends_9 (s := 1) (kd := nI 0) (o1 := nI 0) (o2 := nI 0) (o3 := nI 0) (o4 := nI 0) (A := A1) (B := B1) (fun k hk => funext fun i => hAB1 k i (fun h => hk h.1)) b102
    funext k i
    by_cases c : k = 9 ∧ i ≠ 1
    · obtain ⟨rfl, ci⟩ := c
      have e9 : ∀ X : AS, gSends X 1 (nI 0) (nI 0) (nI 0) (nI 0) (nI 0) 9 i = X 9 i := fun X => by
        unfold gSends
        split
        · exact gKeep_k _ _ _ _ _ _ _ _ _ (by decide) (by decide)
        · unfold gGoes
          rw [up2_n _ _ (by omega), up2_n _ _ (by omega), up2_n _ _ (by omega)]
          exact gKeep_k _ _ _ _ _ _ _ _ _ (by decide) (by decide)
      rw [e9, e9]
      by_cases ci0 : i = 0
      · subst ci0; exact hAB1 9 0 (by decide)
      · have e9' : ∀ X : AS, gSends X 0 (nI 0) (nI 0) (nI 0) (nI 0) (nI 0) 9 i = X 9 i := fun X => by
          unfold gSends
          split
          · exact gKeep_k _ _ _ _ _ _ _ _ _ (by decide) (by decide)
          · unfold gGoes
            rw [up2_n _ _ (by omega), up2_n _ _ (by omega), up2_n _ _ (by omega)]
            exact gKeep_k _ _ _ _ _ _ _ _ _ (by decide) (by decide)
        rw [← hA1, ← hB1, e9', e9', ← hA, hb]
        simp (disch := omega) only [up2_n]
    · exact h9 k i c
  rw [← hfin]
  refine ⟨μ2, ν2, ?_, u2, u4.trans t4, (bal_send (by decide) rA1 u3).trans ?_, fun c y h => u6 _ _ (t6 _ _ h)⟩
  · unfold b_X8_connect_35
    rw [ltt z0, ltt (show 0 < ν.2 1 by omega), ltt (show 1 < ν.2 1 by omega)]
    simp only [cond_true, yl]
    have e1 : (uM μ 0 0 8 1).1 0 0 9 = a 0 1 := hnow
    have e2 : (uM (uM μ 0 0 8 1) 1 0 8 (a 0 1)).1 0 0 9 = a 0 1 := hnow
    rw [e1, e2, q0, t1]
    simp only [Option.bind_some]
    unfold b_X8_connect_71
    rw [ltt t2.1.1, q1, q0, u1]
    rfl
  · rw [← hA1]
    exact (bal_send (ν := ν) (by decide) (roomS_of r0 (by rw [hA4]) (by rw [hA20])) t3).trans (bal_of rfl hA4)
theorem k_connect {w : Nat} {μ : MP} {ν : NC} {a : AS} {z : Bool} (hR : RR μ ν a) (hup : a 0 2 = nI 0) (r0 : roomS (gCon0 a z) 0 1) (r1 : roomS (gCon0 a z) 1 1) :
    ∃ (μ' : MP) (ν' : NC), f_X8_connect w μ ν (if z then nI 1 else nI 0) = some (0, ((μ', ν'), 0)) ∧ RR μ' ν' (gConnect a z) ∧ ν'.2 20 = ν.2 20 ∧ bal ν' (gConnect a z) = bal ν (gCon0 a z) ∧ ∀ c y : Int, RC c y ν → RC c y ν' := by
  obtain ⟨z0, z1, z2, -⟩ := id hR.1
  have m08 : μ.1 0 0 8 = nI 0 := hR.2.2.1.1.trans hup
  have hst : ∀ x : Int32, f_X8_connect w μ ν x = (b_X8_connect_17 w μ ν x).bind (fun r => some ((0 : Nat), r)) := fun x => by
    unfold f_X8_connect
    rw [ltt z0, m08, if_pos (show nI 0 = (0 : Int32) from rfl)]
    rfl
  rw [hst]
  have hR0 := RR_stop (v := nI 0) hR
  cases z with
  | false =>
    have hb : gCon0 a false = up2 (up2 (up2 (up2 (up2 (up2 a 0 0 (nI 0)) 9 0 (up2 a 0 0 (nI 0) 0 1)) 10 0 (up2 a 0 0 (nI 0) 0 1)) 9 1 (up2 a 0 0 (nI 0) 0 1)) 10 1 (up2 a 0 0 (nI 0) 0 1)) 0 2 (nI 1) := by
      have h1 : ∀ (b : AS) (s : Nat), gCon1 b false s = up2 (up2 b 9 s (b 0 1)) 10 s (b 0 1) := fun b s => by
        unfold gCon1
        simp only [Bool.false_eq_true, if_false]
        rw [up2_self, up2_self]
      unfold gCon0
      rw [h1, h1]
      rfl
    obtain ⟨μ', ν', t1, t2, t3, t4, t5⟩ := k_con35 (w := w) hR0 hb (roomS_of r0 (by rw [hb]; rfl) (by rw [hb]; rfl)) (roomS_of r1 (by rw [hb]; rfl) (by rw [hb]; rfl))
    refine ⟨μ', ν', ?_, t2, t3, t4.trans (bal_of rfl (by rw [hb]; rfl)), t5⟩
    unfold b_X8_connect_17
    rw [if_pos (show (if false = true then nI 1 else nI 0 : Int32) = (0 : Int32) from rfl), t1]
    rfl
  | true =>
    obtain ⟨μ1, e1, e2⟩ := k_anew (w := w) (s := 0) hR0 (by decide)
    obtain ⟨μ2, f1, f2⟩ := k_anew (w := w) (s := 1) e2 (by decide)
    have hb : gCon0 a true = up2 (up2 (up2 (up2 (up2 (up2 (up2 (up2 (up2 (up2 a 0 0 (nI 0)) 4 0 (nI 0)) 5 0 (nI 1)) 4 1 (nI 0)) 5 1 (nI 1)) 9 0 (a 0 1)) 10 0 (a 0 1)) 9 1 (a 0 1)) 10 1 (a 0 1)) 0 2 (nI 1) := by
      refine st_eq rfl rfl rfl rfl rfl (fun k k1 k2 k3 k4 k5 => ?_)
      funext i
      unfold gCon0 gCon1
      simp (disch := omega) only [up2_n]
    obtain ⟨μ', ν', t1, t2, t3, t4, t5⟩ := k_con35 (w := w) f2 hb (roomS_of r0 (by rw [hb]; rfl) (by rw [hb]; rfl)) (roomS_of r1 (by rw [hb]; rfl) (by rw [hb]; rfl))
    refine ⟨μ', ν', ?_, t2, t3, t4.trans (bal_of rfl (by rw [hb]; rfl)), t5⟩
    unfold b_X8_connect_17
    rw [if_neg (show ¬ (if true = true then nI 1 else nI 0 : Int32) = (0 : Int32) by decide), ltt z0, ltt (show 0 < ν.2 1 by omega), ltt (show 1 < ν.2 1 by omega), e1]
    simp only [cond_true, Option.bind_some]
    rw [f1]
    simp only [Option.bind_some]
    rw [t1]
    rfl
theorem k_connectX {w : Nat} {μ : MP} {ν : NC} {a : AS} {x : Int32} (hR : RR μ ν a) (hup : ¬ a 0 2 = nI 0) : f_X8_connect w μ ν x = some (3, ((μ, ν), 0)) := by
  unfold f_X8_connect
  rw [ltt hR.1.1, if_neg (show ¬ μ.1 0 0 8 = (0 : Int32) by rw [hR.2.2.1.1]; exact hup)]
  rfl
theorem k_cut {w : Nat} {μ : MP} {ν : NC} {a : AS} (hR : RR μ ν a) (hup : ¬ a 0 2 = nI 0) : ∃ μ' : MP, f_X8_cut w μ ν = some (0, (μ', a 20 0 + a 20 1)) ∧ RR μ' ν (gDown (up2 a 0 0 (nI 0))) := by
  obtain ⟨μ', t1, t2⟩ := k_down (w := w) (RR_stop (v := nI 0) hR)
  obtain ⟨z0, z1, z2, -⟩ := id hR.1
  refine ⟨μ', ?_, t2⟩
  obtain ⟨-, c0, -, -, a1, -, a2, -⟩ := hR.2.2.2.2.2.1 0 (by decide)
  obtain ⟨-, c1, -, -, b1, -, b2, -⟩ := hR.2.2.2.2.2.1 1 (by decide)
  unfold f_X8_cut
  rw [ltt z0, if_neg (show ¬ μ.1 0 0 8 = (0 : Int32) by rw [hR.2.2.1.1]; exact hup), ltt (show 0 < ν.2 1 by omega), ltt (show 0 < ν.2 2 by omega), ltt (show 1 < ν.2 1 by omega), ltt (show 1 < ν.2 2 by omega), a1, b1, t1, a2, b2]
  rfl
theorem k_cutX {w : Nat} {μ : MP} {ν : NC} {a : AS} (hR : RR μ ν a) (hup : a 0 2 = nI 0) : f_X8_cut w μ ν = some (3, (μ, 0)) := by
  unfold f_X8_cut
  rw [ltt hR.1.1, if_pos (show μ.1 0 0 8 = (0 : Int32) by rw [hR.2.2.1.1]; exact hup)]
  rfl
theorem k_slot {w s k h c : Nat} {μ : MP} {ν : NC} {a : AS} (hR : RR μ ν a) (hs : s < 2) (x1 : μ.1 2 s 3 = nI h) (x2 : μ.1 2 s 4 = nI c) (hh : h < ν.1 10 s) (hc : c ≤ ν.1 10 s) (hl : ν.1 10 s ≤ 131072) (hk : k < c) : f_X7_slotOf w μ ν s (nI k) = some (nI (sl (ν.1 10 s) h k)) := by
  obtain ⟨-, -, z2, -, -, -, z10, z11, z12, -⟩ := id hR.1
  unfold f_X7_slotOf
  rw [if_neg (show ¬ nI k < (0 : Int32) from nIb _ (by omega)), ltt (show s < ν.2 2 by omega), x2, if_pos ((nI_ltI (by omega) (by omega)).mpr hk), x1, ltt (show s < ν.2 10 by omega)]
  simp only [cond_true, yl]
  rw [nI_add]
  unfold sl
  by_cases c1 : h + k < ν.1 10 s
  · rw [if_pos c1, if_neg (fun h2 => by have := (nI_leI (by omega) (by omega)).mp h2; omega)]
  · rw [if_neg c1, if_pos ((nI_leI (by omega) (by omega)).mpr (by omega)), pk_sub (by omega)]
theorem k_garble {w s k : Nat} {μ : MP} {ν : NC} {a : AS} (hR : RR μ ν a) (hs : s < 2) (hk : k < tn (a 20 s)) : ∃ μ' : MP, f_X8_garble w μ ν (nI s) (nI k) = some (0, (μ', nI (tn (a 21 (pl a s k)) / 2 / 8192))) ∧ RR μ' ν (gGarble a s k) := by
  obtain ⟨h, c, H, x1, x2, x3, x4, x5, x6, x7, x8, x9, x10, x11, x12, x13, x14⟩ := hR.2.2.2.2.2.1 s hs
  obtain ⟨z0, z1, z2, -, -, -, z10, z11, z12, -⟩ := id hR.1
  rw [x4, tnI (by omega)] at hk
  obtain ⟨n, f, g, y1, y2, y3, y4, y5, y6, y7, y8⟩ := x14 k hk
  have hsl := k_slot (w := w) hR hs x1 x2 x7 x8 x10 hk
  have hslb : sl (ν.1 10 s) h k < ν.1 10 s := by unfold sl; split <;> omega
  have hpl : pl a s k = 65536 * s + (H + k) % 65536 := by unfold pl; rw [x3, tnI (by omega)]
  have e21 : tn (a 21 (pl a s k)) = 2 * (8192 * n + f) + g := by rw [hpl, y8, tnI (by omega)]
  generalize hμ' : uM μ 12 s (sl (ν.1 10 s) h k) 1 = μ'
  have u12 : μ'.1 12 s = up1 (μ.1 12 s) (sl (ν.1 10 s) h k) 1 := by rw [← hμ', uM_s]
  have un : ∀ j i, ¬ (j = 12 ∧ i = s) → μ'.1 j i = μ.1 j i := fun j i hj => by rw [← hμ', uM_n _ _ _ hj]
  have hga : f_X7_garbleAt w μ ν s (nI k) = some (μ', 0) := by
    unfold f_X7_garbleAt
    rw [ltt (show s < ν.2 2 by omega), hsl, ltt (show s < ν.2 12 by omega)]
    simp only [cond_true, Option.bind_some]
    rw [ixn (by omega) (by omega), nI_clamp (by omega), show vp_nar .boolean (1 : Int32) = 1 from nar1, hμ']
    rfl
  have hRg : RR μ' ν (gGarble a s k) := by
    unfold gGarble
    have hR0 := RR_stop (v := nI 0) hR
    have p21 : up2 (up2 a 0 0 (nI 0)) 21 (pl a s k) (nI (tn (a 21 (pl a s k)) / 2 * 2 + 1)) 21 = up1 (a 21) (65536 * s + (H + k) % 65536) (nI (2 * (8192 * n + f) + 1)) := by
      rw [hpl, ← hpl, e21, show (2 * (8192 * n + f) + g) / 2 * 2 + 1 = 2 * (8192 * n + f) + 1 by omega, hpl]
      rfl
    refine RR_way hR0 (fun j j1 j2 j3 j4 => funext fun i => un j i (by omega)) (by rw [← hμ']; rfl) rfl (fun _ _ _ _ _ => rfl) (fun j j1 j2 j3 => funext fun i => up2_n _ _ (by omega)) ?_
    rw [p21]
    intro t ht
    by_cases ct : t = s
    · subst ct
      rw [u12, un 2 t (by omega), un 10 t (by omega), un 11 t (by omega)]
      refine ⟨h, c, H, x1, x2, x3, x4, x5, x6, x7, x8, x9, x10, x11, x12, fun j => ?_, fun k' hk' => ?_⟩
      · by_cases cj : j = sl (ν.1 10 t) h k
        · subst cj; rw [up1_s]; exact Or.inr rfl
        · rw [up1_n _ _ cj]; exact x13 j
      · obtain ⟨n', f', g', j1, j2, j3, j4, j5, j6, j7, j8⟩ := x14 k' hk'
        by_cases ck : k' = k
        · subst ck
          refine ⟨n, f, 1, y1, y2, y3, by decide, y5, y6, ?_, ?_⟩
          · rw [up1_s]; rfl
          · rw [up1_s]
        · have hne : sl (ν.1 10 t) h k' ≠ sl (ν.1 10 t) h k := fun e => ck (sl_inj x7 (by omega) (by omega) e)
          refine ⟨n', f', g', j1, j2, j3, j4, j5, j6, ?_, ?_⟩
          · rw [up1_n _ _ hne]; exact j7
          · rw [up1_n _ _ (by omega)]; exact j8
    · rw [un 2 t (by omega), un 10 t (by omega), un 11 t (by omega), un 12 t (by omega)]
      obtain ⟨h', c', H', q1, q2, q3, q4, q5, q6, q7, q8, q9, q10, q11, q12, q13, q14⟩ := hR.2.2.2.2.2.1 t ht
      refine ⟨h', c', H', q1, q2, q3, q4, q5, q6, q7, q8, q9, q10, q11, q12, q13, fun k' hk' => ?_⟩
      obtain ⟨n', f', g', j1, j2, j3, j4, j5, j6, j7, j8⟩ := q14 k' hk'
      refine ⟨n', f', g', j1, j2, j3, j4, j5, j6, j7, ?_⟩
      rw [up1_n _ _ (by omega)]; exact j8
  refine ⟨μ', ?_, hRg⟩
  have hn : f_X7_numberAt w μ' ν s (nI k) = some (nI n) := by
    have hsl' := k_slot (w := w) (h := h) (c := c) hRg hs (by rw [un 2 s (by omega)]; exact x1) (by rw [un 2 s (by omega)]; exact x2) x7 x8 x10 hk
    unfold f_X7_numberAt
    rw [ltt (show s < ν.2 2 by omega), hsl', ltt (show s < ν.2 10 by omega)]
    simp only [cond_true, Option.bind_some]
    rw [ixn (by omega) (by omega), nI_clamp (by omega), un 10 s (by omega), y5]
    rfl
  have hq : f_X8_requireSide w μ ν (nI s) = some (0, 0) := by
    unfold f_X8_requireSide
    rcases (show s = 0 ∨ s = 1 by omega) with rfl | rfl
    · rw [if_pos (show nI 0 = (0 : Int32) from rfl)]
    · rw [if_neg (show ¬ nI 1 = (0 : Int32) by decide), if_pos (show nI 1 = (1 : Int32) from rfl)]
  unfold f_X8_garble
  rw [hq]
  simp only [Option.bind_some]
  rw [eqs, ltt z0, k_party hR.1 hs]
  simp only [cond_true, Option.bind_some]
  rw [nzs, Nat.add_sub_cancel, ltt (show s < ν.2 1 by omega), if_neg (show ¬ nI k < (0 : Int32) from nIb _ (by omega)), ltt (show s < ν.2 2 by omega), x2, if_pos ((nI_ltI (by omega) (by omega)).mpr hk), hga]
  simp only [cond_true, Option.bind_some]
  rw [hn, e21, show (2 * (8192 * n + f) + g) / 2 / 8192 = n by omega]
  rfl
theorem k_garbleX {w : Nat} {μ : MP} {ν : NC} {a : AS} {x y : Int32} (hR : RR μ ν a) (hx : (x ≠ nI 0 ∧ x ≠ nI 1) ∨ ∃ s : Nat, s < 2 ∧ x = nI s ∧ (y < 0 ∨ a 20 s ≤ y)) : f_X8_garble w μ ν x y = some (1, (μ, 0)) := by
  obtain ⟨z0, z1, z2, -, -, -, z10, z11, z12, -⟩ := id hR.1
  rcases hx with ⟨h1, h2⟩ | ⟨s, hs, rfl, hy⟩
  · have hq : f_X8_requireSide w μ ν x = some (1, 0) := by
      unfold f_X8_requireSide
      rw [if_neg (show ¬ x = (0 : Int32) from h1), if_neg (show ¬ x = (1 : Int32) from h2)]
    unfold f_X8_garble
    rw [hq]
    rfl
  · have hq : f_X8_requireSide w μ ν (nI s) = some (0, 0) := by
      unfold f_X8_requireSide
      rcases (show s = 0 ∨ s = 1 by omega) with rfl | rfl
      · rw [if_pos (show nI 0 = (0 : Int32) from rfl)]
      · rw [if_neg (show ¬ nI 1 = (0 : Int32) by decide), if_pos (show nI 1 = (1 : Int32) from rfl)]
    obtain ⟨h, c, H, x1, x2, x3, x4, -⟩ := hR.2.2.2.2.2.1 s hs
    unfold f_X8_garble
    rw [hq]
    simp only [Option.bind_some]
    rw [eqs, ltt z0, k_party hR.1 hs]
    simp only [cond_true, Option.bind_some]
    rw [nzs, Nat.add_sub_cancel, ltt (show s < ν.2 1 by omega), ltt (show s < ν.2 2 by omega), x2, ← x4]
    simp only [cond_true]
    by_cases c0 : y < 0
    · rw [if_pos c0]; rfl
    · rw [if_neg c0, if_neg (Int32.not_lt.mpr (hy.resolve_left c0))]; rfl
