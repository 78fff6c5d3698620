/-! Answer; asking; holding back; the class against the reference. -/
theorem RR_J {μ : MP} {ν : NC} {a : AS} {s : Nat} (hR : RR μ ν a) (hs : s < 2) : RR μ ν (JJ a s (μ.1 1 s 7)) := by
  obtain ⟨g0, gF, g1, g2, g3, g4, g5, g6, g7, g8, g9⟩ := hR
  refine ⟨g0, gF, g1, fun s' hs' => ?_, g3, g4, g5, g6, g7, g8, g9⟩
  obtain ⟨x1, x2, x3, x4, x5, x6, x7⟩ := g2 s' hs'
  refine ⟨x1, x2, x3, x4, x5, fun hu => ?_, x7⟩
  by_cases hss : s' = s
  · subst hss
    exact (up2_s a 9 s' (μ.1 1 s' 7)).symm
  · exact (x6 hu).trans (up2_n a (μ.1 1 s 7) (show ¬ (9 = 9 ∧ s' = s) by omega)).symm
theorem RR_unJ {μ : MP} {ν : NC} {a : AS} {s : Nat} {v : Int32} (hR : RR μ ν (JJ a s v)) (h : a 0 2 ≠ nI 0 → a 9 s = v) : RR μ ν a := by
  obtain ⟨g0, gF, g1, g2, g3, g4, g5, g6, g7, g8, g9⟩ := hR
  refine ⟨g0, gF, g1, fun s' hs' => ?_, g3, g4, g5, g6, g7, g8, g9⟩
  obtain ⟨x1, x2, x3, x4, x5, x6, x7⟩ := g2 s' hs'
  refine ⟨x1, x2, x3, x4, x5, fun hu => ?_, x7⟩
  by_cases hss : s' = s
  · subst hss
    exact (x6 hu).trans ((up2_s a 9 s' v).trans (h hu).symm)
  · exact (x6 hu).trans (up2_n a v (show ¬ (9 = 9 ∧ s' = s) by omega))
theorem gGoes_901 (a : AS) (s n f : Nat) : gGoes a s n f 9 s = gGoes a s n f 0 1 := (show gGoes a s n f 9 s = a 0 1 from up2_s _ _ _ _).trans (gGoes_k a s n f 0 1 (by decide) (by decide) (by decide)).symm
theorem gAns_9 (s last : Nat) : ∀ (d n : Nat) (x : AS × Nat), 1 ≤ n → (0 < x.2 ∨ x.1 9 s = x.1 0 1) → (gAnsE s last (gAnsL s d n x)) 9 s = x.1 0 1 := by
  have gg : ∀ (a : AS) (n f : Nat), gGoes a s n f 9 s = a 0 1 := fun a n f => up2_s _ _ _ _
  intro d
  induction d with
  | zero =>
    intro n x hn h
    unfold gAnsL gAnsE
    by_cases c : 0 < x.2
    · rw [if_pos c]; exact gg _ _ _
    · rw [if_neg c]; exact h.resolve_left c
  | succ d ih =>
    intro n x hn h
    have h0 : (gAns1 s x n).1 0 1 = x.1 0 1 := gAns1_k _ _ _ _ _ (by decide) (by decide) (by decide) (by decide) (by decide)
    show (gAnsE s last (gAnsL s d (n + 1) (gAns1 s x n))) 9 s = _
    rw [ih (n + 1) (gAns1 s x n) (by omega) ?_, h0]
    unfold gAns1
    by_cases hst : stays x.1 (8192 * s + n)
    · rw [if_pos hst]
      refine Or.inl ?_
      show 0 < (if x.2 = 0 then n else x.2)
      split <;> omega
    · rw [if_neg hst]
      refine Or.inr ?_
      exact gGoes_901 _ _ _ _
theorem k_answer {w g c : Nat} {μ : MP} {ν : NC} {a : AS} {s : Nat} (hR : RR μ ν a) (hs : s < 2) (hl : tn (a 4 s) ≤ 8190) (hg : g ≤ 8191) (e20 : a 20 (1 - s) = nI c) (hc : c + ansN s (tn (a 4 s) + 1 - max g 1) (max g 1) (a, 0) ≤ 65536) (hO : ordIn a s) (hw : 8192 < w) :
    ∃ (μ' : MP) (ν' : NC), f_X8_answer w μ ν (nI s) (nI g) = some ((μ', ν'), 0) ∧ RR μ' ν' (gAnswers a s g) ∧ ν'.2 = ν.2 ∧ ∀ c d : Int, RC c d ν → RC c d ν' := by
  obtain ⟨z0, z1, z2, z3, z4, z5, -⟩ := id hR.1
  have hR9 := hR.2.2.2.1 s hs
  obtain ⟨y1, k, y2, -⟩ := hR.2.2.2.2.1.1 s hs
  have e4 : a 4 s = nI (tn (a 4 s)) := by
    obtain ⟨-, k', w1, w2, -⟩ := hR.2.2.2.2.1.1 s hs
    rw [w1, tnI (by omega)]
  have hrun : f_X8_answer w μ ν (nI s) (nI g) = l_X8_answer_38 w w μ ν (s + 1) (1 - s + 1) (nI (tn (a 4 s))) (nI 0) (nI (max g 1)) := by
    unfold f_X8_answer
    rw [ltt z0, k_party hR.1 hs, k_other hs]
    simp only [cond_true, Option.bind_some, k_party hR.1 (show 1 - s < 2 by omega), nzs, Nat.add_sub_cancel, ltt (show s < ν.2 1 by omega), ltt (show 1 - s < ν.2 1 by omega), ltt (show s < ν.2 4 by omega), yl, y1]
    rw [← e4, q1, q0]
    by_cases h : g < 1
    · rw [if_pos ((nI_ltI (by omega) (by decide)).mpr h), show max g 1 = 1 by omega]
    · rw [if_neg (fun hh => h ((nI_ltI (by omega) (by decide)).mp hh)), show max g 1 = g by omega]
  rw [hrun]
  by_cases hd : max g 1 ≤ tn (a 4 s) + 1
  · obtain ⟨μ', ν', t1, t2, t3, t4⟩ := k_ansL (w := w) (last := tn (a 4 s)) hs hl (by omega) (tn (a 4 s) + 1 - max g 1) (max g 1) w c μ ν (a, 0) (μ.1 1 s 7) (by omega) (by omega) (RR_J hR hs) rfl (by omega) (by show 0 < max g 1; omega) e20 hc hO
    refine ⟨μ', ν', t1, RR_unJ t2 (fun hu => ?_), t3, t4⟩
    have gk : ∀ k i, k ≠ 29 → k ≠ 21 → k ≠ 20 → k ≠ 9 → k ≠ 13 → ∀ d n x, (gAnsL s d n x).1 k i = x.1 k i := fun k i k1 k2 k3 k4 k5 d => by
      induction d with
      | zero => intro n x; rfl
      | succ d ih => intro n x; exact (ih _ _).trans (gAns1_k _ _ _ _ _ k1 k2 k3 k4 k5)
    by_cases h0 : tn (a 4 s) + 1 - max g 1 = 0
    · rw [if_pos h0]
      have hga : gAnswers a s g = a := by unfold gAnswers; rw [h0]; rfl
      rw [hga] at hu ⊢
      exact (hR9.2.2.2.2.2.1 hu).symm
    · rw [if_neg h0]
      obtain ⟨d, hd'⟩ : ∃ d, tn (a 4 s) + 1 - max g 1 = d + 1 := ⟨tn (a 4 s) + 1 - max g 1 - 1, by omega⟩
      show (gAnsE s (tn (a 4 s)) (gAnsL s (tn (a 4 s) + 1 - max g 1) (max g 1) (a, 0))) 9 s = _
      rw [hd']
      have h1 := gAns_9 s (tn (a 4 s)) d (max g 1 + 1) (gAns1 s (a, 0) (max g 1)) (by omega) (by
        unfold gAns1
        by_cases hst : stays (a, 0).1 (8192 * s + max g 1)
        · rw [if_pos hst]; exact Or.inl (by show 0 < (if (0 : Nat) = 0 then max g 1 else 0); rw [if_pos rfl]; omega)
        · rw [if_neg hst]
          refine Or.inr ?_
          exact gGoes_901 _ _ _ _)
      exact h1.trans (gAns1_k _ _ _ _ _ (by decide) (by decide) (by decide) (by decide) (by decide))
  · have h0 : tn (a 4 s) + 1 - max g 1 = 0 := by omega
    obtain ⟨m, rfl⟩ : ∃ m, w = m + 1 := ⟨w - 1, by omega⟩
    have hga : gAnswers a s g = a := by unfold gAnswers; rw [h0]; rfl
    rw [hga]
    refine ⟨μ, ν, ?_, hR, rfl, fun _ _ h => h⟩
    have c1 : nI (tn (a 4 s)) < nI (max g 1) := (nI_ltI (by omega) (by omega)).mpr (by omega)
    show b_X8_answer_38 _ (m + 1) μ ν (s + 1) (1 - s + 1) (nI (tn (a 4 s))) (nI 0) (nI (max g 1)) = _
    unfold b_X8_answer_38
    rw [if_pos c1, q0, if_pos rfl]
    rfl
theorem k_ask {w n : Nat} {μ : MP} {ν : NC} {a : AS} {s : Nat} (hR : RR μ ν a) (hs : s < 2) (e4 : a 4 s = nI n) (hn : n + 1 ≤ 8190) (hwy : ¬ a 0 2 = nI 0 → ∃ c : Nat, a 20 (1 - s) = nI c ∧ c + 1 ≤ 65536) :
    ∃ (μ' : MP) (ν' : NC), f_X8_askForExpected w μ ν (nI s) = some ((μ', ν'), 0) ∧ RR μ' ν' (gAsk a s) ∧ ν'.2 20 = ν.2 20 ∧ ν'.2 23 = ν.2 23 ∧ ν'.2 6 = ν.2 6 + (if a 7 s = a 5 s ∧ a 0 1 - a 8 s < nI 5 then 0 else 1) ∧ (∀ c d : Int, RC c d ν → RC c d ν') := by
  obtain ⟨z0, z1, z2, z3, z4, z5, -⟩ := id hR.1
  obtain ⟨x1, x2, x3, x4, x5, x6, x7⟩ := hR.2.2.2.1 s hs
  have hnow : μ.1 0 0 9 = a 0 1 := hR.2.2.1.2.1
  have run : f_X8_askForExpected w μ ν (nI s) = if a 7 s = a 5 s ∧ a 0 1 - a 8 s < nI 5 then some ((μ, ν), 0) else b_X8_askForExpected_33 w μ ν (nI s) (s + 1) (a 5 s) := by
    unfold f_X8_askForExpected
    rw [ltt z0, k_party hR.1 hs]
    simp only [cond_true, Option.bind_some, nzs, Nat.add_sub_cancel, ltt (show s < ν.2 1 by omega), yl, x2, x3, x4, hnow]
    rw [q5]
    by_cases c1 : a 7 s = a 5 s
    · rw [if_pos c1]
      by_cases c2 : a 0 1 - a 8 s < nI 5
      · rw [if_neg (Int32.not_le.mpr c2), if_pos ⟨c1, c2⟩]
      · rw [if_pos (Int32.not_lt.mp c2), if_neg (fun h : a 7 s = a 5 s ∧ a 0 1 - a 8 s < nI 5 => c2 h.2)]
    · rw [if_neg c1, if_neg (fun h => c1 h.1)]
  rw [run]
  unfold gAsk
  by_cases c : a 7 s = a 5 s ∧ a 0 1 - a 8 s < nI 5
  · rw [if_pos c, if_pos c]
    exact ⟨μ, ν, rfl, hR, rfl, rfl, by rw [if_pos c]; rfl, fun _ _ h => h⟩
  · rw [if_neg c, if_neg c]
    have hR1 : RR (uM (uM μ 1 s 5 (a 5 s)) 1 s 6 (a 0 1)) ν (up2 (up2 a 7 s (a 5 s)) 8 s (a 0 1)) := by
      obtain ⟨g0, gF, g1, g2, g3, g4, g5, g6, g7, g8, g9⟩ := hR
      refine ⟨g0, gF, g1, fun s' hs' => ?_, g3, g4, g5, g6, g7, g8, g9⟩
      obtain ⟨y1, y2, y3, y4, y5, y6, y7⟩ := g2 s' hs'
      by_cases hss : s' = s
      · subst hss
        have e : (uM (uM μ 1 s' 5 (a 5 s')) 1 s' 6 (a 0 1)).1 1 s' = up1 (up1 (μ.1 1 s') 5 (a 5 s')) 6 (a 0 1) := by rw [uM_s, uM_s]
        have e7 : (up2 (up2 a 7 s' (a 5 s')) 8 s' (a 0 1)) 7 s' = a 5 s' := by rw [up2_n _ _ (by omega), up2_s]
        have e8 : (up2 (up2 a 7 s' (a 5 s')) 8 s' (a 0 1)) 8 s' = a 0 1 := up2_s _ _ _ _
        rw [e, e7, e8]
        refine ⟨?_, ?_, ?_, up1_s _ _ _, ?_, fun hu => ?_, y7⟩
        · rw [up1_n _ _ (by decide), up1_n _ _ (by decide)]; exact y1
        · rw [up1_n _ _ (by decide), up1_n _ _ (by decide)]; exact y2
        · rw [up1_n _ _ (by decide), up1_s]
        · rw [up1_n _ _ (by decide), up1_n _ _ (by decide)]; exact y5
        · rw [up1_n _ _ (by decide), up1_n _ _ (by decide)]; exact y6 hu
      · have e : (uM (uM μ 1 s 5 (a 5 s)) 1 s 6 (a 0 1)).1 1 s' = μ.1 1 s' := by rw [uM_n _ _ _ (by omega), uM_n _ _ _ (by omega)]
        have e7 : (up2 (up2 a 7 s (a 5 s)) 8 s (a 0 1)) 7 s' = a 7 s' := by rw [up2_n _ _ (by omega), up2_n _ _ (by omega)]
        have e8 : (up2 (up2 a 7 s (a 5 s)) 8 s (a 0 1)) 8 s' = a 8 s' := by rw [up2_n _ _ (by omega), up2_n _ _ (by omega)]
        rw [e, e7, e8]
        exact ⟨y1, y2, y3, y4, y5, y6, y7⟩
    have hR2 : RR (uM (uM μ 1 s 5 (a 5 s)) 1 s 6 (a 0 1)) (chg ν 1 2) (up2 (up2 a 7 s (a 5 s)) 8 s (a 0 1)) := by
      obtain ⟨g0, gF, g1, g2, g3, g4, g5, g6, g7, g8, g9⟩ := hR1
      exact ⟨g0, gF, g1, g2, g3, g4, g5, g6, g7, g8, g9⟩
    have hbody : bodyR (fun _ => nI 3) (fun _ => a 5 s) (fun _ => nI 0) (fun _ => nI 0) (fun _ => nI 0) (a 37) (a 39) (a 40) 0 2 (up1 (up1 (fun _ => 0) 0 (7 : Int32)) 1 (a 5 s)) := Or.inr (Or.inl ⟨rfl, rfl, by rw [up1_n _ _ (by decide), up1_s]; rfl, up1_s _ _ _⟩)
    obtain ⟨μ', ν', t1, t2, t3, t4, t5, t6⟩ := k_send_L (w := w) (n := n) (nb := 2) (fb0 := up1 (up1 (fun _ => 0) 0 (7 : Int32)) 1 (a 5 s)) (kd := nI 3) (o1 := a 5 s) (o2 := nI 0) (o3 := nI 0) (o4 := nI 0) hR2 hs ((up2_n _ _ (by omega)).trans ((up2_n _ _ (by omega)).trans e4)) hn (fun hu => by
      obtain ⟨c, h1, h2⟩ := hwy hu
      exact ⟨c, (up2_n _ _ (by omega)).trans ((up2_n _ _ (by omega)).trans h1), h2⟩) (by decide) hbody
    refine ⟨μ', ν', ?_, t2, t4, t5, by rw [if_neg c]; exact t3, fun c d hC => ?_⟩
    · unfold b_X8_askForExpected_33 b_X8_askForExpected_52 b_X8_askForExpected_64
      simp only [cond_true, nzs, Nat.add_sub_cancel, ltt (show s < ν.2 1 by omega), ltt z0, yl]
      have e9 : (uM μ 1 s 5 (a 5 s)).1 0 0 9 = a 0 1 := hnow
      rw [e9]
      rw [show ltB 0 ((chg ν 1 2).2 0) = true from ltt z0]
      simp only [cond_true]
      rw [q3, t1]
      rfl
    · have hC2 : RC (c + 8) (d + 2) (chg ν 1 2) := by
        obtain ⟨g1, g2⟩ := hC
        unfold RC
        have k1 : kc (chg ν 1 2) = kc ν + 1 := by simp (disch := omega) only [chg, kc, up2_n, up2_s]
        have k2 : ks (chg ν 1 2) = ks ν + 2 := by simp (disch := omega) only [chg, ks, up2_n, up2_s]
        have v1 : ∀ k, k ≠ 98 → (chg ν 1 2).1 k = ν.1 k := fun k hk => by simp (disch := omega) only [chg, up2, up1_n]
        rw [k1, k2, v1 10 (by decide), v1 13 (by decide), v1 5 (by decide), show (chg ν 1 2).2 = ν.2 from rfl]
        omega
      have hC3 := t6 _ _ hC2
      obtain ⟨g1, g2⟩ := hC3
      exact ⟨by omega, by omega⟩
