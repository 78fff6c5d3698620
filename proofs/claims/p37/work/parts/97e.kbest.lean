/-! The best quote for an order: the class against the reference. -/
/-- an order's registers, by its number -/
theorem ordOf {μ : MP} {ν : NC} {a : AS} {o : Nat} (hR : RR μ ν a) (ho : o < tn (a 0 22)) : o < ν.2 20 ∧ 2 * o + 1 < ν.2 21 ∧ o < 40 ∧ μ.1 20 o 0 = nI o ∧ μ.1 20 o 1 = a 23 o ∧ (a 23 o = nI 0 ∨ a 23 o = nI 1) ∧ μ.1 20 o 4 = a 24 o ∧ μ.1 20 o 5 = a 29 o ∧ μ.1 20 o 6 = a 24 (40 + o) ∧ μ.1 20 o 7 = a 30 o ∧ ∀ z, z < 2 → μ.1 21 (2 * o + z) 0 = a 25 (40 * z + o) ∧ μ.1 21 (2 * o + z) 1 = a 26 (40 * z + o) ∧ μ.1 21 (2 * o + z) 2 = a 27 (40 * z + o) ∧ μ.1 21 (2 * o + z) 3 = a 28 (40 * z + o) := by
  have z21 := hR.1.2.2.2.2.2.2.2.2.2.2.2.2.2.2.2.2.2
  obtain ⟨-, -, -, -, -, -, -, ⟨y1, k, y2, y3, y4, y5, y6, y7, y8⟩, -⟩ := hR
  rw [y2, tnI (by omega)] at ho
  obtain ⟨x1, x2⟩ := y8 o ho
  exact ⟨by omega, by omega, by omega, x2⟩
theorem k_rest {w : Nat} {μ : MP} {ν : NC} {a : AS} {o z : Nat} (hR : RR μ ν a) (ho : o < tn (a 0 22)) (hz : z < 2) : f_X1_rest w μ ν (2 * o + z) = some (lft a (40 * z + o)) := by
  obtain ⟨h1, h2, h3, h4, h5, h6, h7, h8, h9, h10, h11⟩ := ordOf hR ho
  obtain ⟨g1, g2, g3, g4⟩ := h11 z hz
  unfold f_X1_rest lft
  rw [ltt (by omega), g2, g3, g4]
  rfl
theorem k_can {w : Nat} {μ : MP} {ν : NC} {a : AS} {o d v : Nat} (hR : RR μ ν a) (ho : o < tn (a 0 22)) (hd : d < 2) (hv : v < 3) : f_X4_canTradeWith w μ ν o (3 * d + v + 1) = some (if ¬ lft a (40 + o) ≤ nI 0 ∧ ¬ a 34 (2 * v + d) ≤ nI 0 ∧ gFits a o (2 * v + d) then nI 1 else nI 0) := by
  obtain ⟨h1, h2, h3, h4, h5, h6, h7, h8, h9, h10, h11⟩ := ordOf hR ho
  obtain ⟨g1, g2, g3, g4⟩ := h11 1 (by decide)
  have hr := k_rest (w := w) (z := 1) hR ho (by decide)
  rw [show 40 * 1 + o = 40 + o by omega] at g1 hr
  obtain ⟨q1', q2'⟩ := hR.2.2.2.2.2.2.2.2.2.1 d hd
  obtain ⟨p1, p2, p3, p4⟩ := q2' v hv
  have z25 := hR.1.2.2.2.2.2.2.2.2.2.2.2.1
  unfold f_X4_canTradeWith
  rw [ltt h1, ltt h2, hr, nzs, Nat.add_sub_cancel, ltt (show 3 * d + v < ν.2 25 by omega), p3, p4, g1, h5]
  simp only [cond_true, Option.bind_some]
  rw [q0, q1]
  by_cases c1 : lft a (40 + o) ≤ nI 0
  · rw [if_pos c1, if_neg (fun h => h.1 c1)]
  · rw [if_neg c1]
    by_cases c2 : a 34 (2 * v + d) ≤ nI 0
    · rw [if_neg (Int32.not_lt.mpr c2), if_neg (fun h => h.2.1 c2)]
    · rw [if_pos (Int32.not_le.mp c2)]
      by_cases c3 : a 23 o = nI 0
      · have hf : gFits a o (2 * v + d) ↔ ¬ a 25 (40 + o) < a 33 (2 * v + d) := by unfold gFits; rw [if_pos c3]
        rw [if_pos c3]
        by_cases c4 : a 25 (40 + o) < a 33 (2 * v + d)
        · rw [if_pos c4, if_neg (fun h => hf.mp h.2.2 c4)]
        · rw [if_neg c4, if_pos ⟨c1, c2, hf.mpr c4⟩]
      · have hf : gFits a o (2 * v + d) ↔ ¬ a 33 (2 * v + d) < a 25 (40 + o) := by unfold gFits; rw [if_neg c3]
        rw [if_neg c3]
        by_cases c4 : a 33 (2 * v + d) < a 25 (40 + o)
        · rw [if_pos c4, if_neg (fun h => hf.mp h.2.2 c4)]
        · rw [if_neg c4, if_pos ⟨c1, c2, hf.mpr c4⟩]
theorem k_better {w : Nat} {μ : MP} {ν : NC} {a : AS} {o d v u : Nat} (hR : RR μ ν a) (hd : d < 2) (hv : v < 3) (hu : u < 3) (e : a 23 o = nI d) : f_X6_isBetterThan w μ ν (3 * d + v) (3 * d + u + 1) (a 23 o) = some (if gBet a o (2 * v + d) (2 * u + d) then nI 1 else nI 0) := by
  obtain ⟨q1', q2'⟩ := hR.2.2.2.2.2.2.2.2.2.1 d hd
  obtain ⟨p1, p2, p3, p4⟩ := q2' v hv
  obtain ⟨r1, r2, r3, r4⟩ := q2' u hu
  have z25 := hR.1.2.2.2.2.2.2.2.2.2.2.2.1
  unfold f_X6_isBetterThan
  rw [ltt (show 3 * d + v < ν.2 25 by omega), nzs, Nat.add_sub_cancel, ltt (show 3 * d + u < ν.2 25 by omega), p3, p4, r3, r4]
  simp only [cond_true]
  rw [q0, q1]
  by_cases c1 : a 33 (2 * v + d) = a 33 (2 * u + d)
  · have hb : gBet a o (2 * v + d) (2 * u + d) ↔ ¬ a 34 (2 * v + d) ≤ a 34 (2 * u + d) := by unfold gBet; rw [if_pos c1]
    rw [if_pos c1]
    by_cases c2 : a 34 (2 * v + d) ≤ a 34 (2 * u + d)
    · rw [if_pos c2, if_neg (fun h => hb.mp h c2)]
    · rw [if_neg c2, if_pos (hb.mpr c2)]
  · rw [if_neg c1]
    by_cases c3 : a 23 o = nI 0
    · have hb : gBet a o (2 * v + d) (2 * u + d) ↔ ¬ a 33 (2 * u + d) ≤ a 33 (2 * v + d) := by unfold gBet; rw [if_neg c1, if_pos c3]
      rw [if_pos c3]
      by_cases c4 : a 33 (2 * u + d) ≤ a 33 (2 * v + d)
      · rw [if_pos c4, if_neg (fun h => hb.mp h c4)]
      · rw [if_neg c4, if_pos (hb.mpr c4)]
    · have hb : gBet a o (2 * v + d) (2 * u + d) ↔ a 33 (2 * u + d) ≤ a 33 (2 * v + d) := by unfold gBet; rw [if_neg c1, if_neg c3]
      rw [if_neg c3]
      by_cases c4 : a 33 (2 * u + d) ≤ a 33 (2 * v + d)
      · rw [if_neg (fun h => c1 (Int32.le_antisymm h c4)), if_pos (hb.mpr c4)]
      · rw [if_pos (Int32.le_of_lt (Int32.not_le.mp c4)), if_neg (fun h => c4 (hb.mp h))]
/-- a pointer to the best quote: class (3 d + v + 1) and reference (v + 1) -/
def qP (d g : Nat) : Nat := if g = 0 then 0 else 3 * d + g
theorem k_best {w : Nat} {μ : MP} {ν : NC} {a : AS} {o d : Nat} (hR : RR μ ν a) (ho : o < tn (a 0 22)) (hd : d < 2) (e : a 23 o = nI d) (hw : 10 < w) : f_X8_bestQuoteFor w μ ν (o + 1) = some (if lft a (40 + o) ≤ nI 0 then 0 else qP d (gBest a o)) := by
  obtain ⟨h1, h2, h3, h4, h5, h6, h7, h8, h9, h10, h11⟩ := ordOf hR ho
  obtain ⟨q1', q2'⟩ := hR.2.2.2.2.2.2.2.2.2.1 d hd
  have z24 := hR.1.2.2.2.2.2.2.2.2.2.2.1
  have z25 := hR.1.2.2.2.2.2.2.2.2.2.2.2.1
  have eg : gBest a o = gBestD a d o := by unfold gBest; rw [e, tnI (by omega)]
  have n10 : ¬ nI 1 = nI 0 := by decide
  have step : ∀ (v g m : Nat), v < 3 → g ≤ v → l_X8_bestQuoteFor_14 w μ ν (m + 1) (o + 1) (d + 1) (if lft a (40 + o) ≤ nI 0 then 0 else qP d g) (nI v) = l_X8_bestQuoteFor_14 w μ ν m (o + 1) (d + 1) (if lft a (40 + o) ≤ nI 0 then 0 else qP d (gBest1 a d o g v)) (nI (v + 1)) := fun v g m hv hg => by
    have hc := k_can (w := w) hR ho hd hv
    obtain ⟨p1, p2, p3, p4⟩ := q2' v hv
    have c0 : ¬ nI 3 ≤ nI v := fun h => by have := (nI_leI (by decide) (by omega)).mp h; omega
    show b_X8_bestQuoteFor_14 (l_X8_bestQuoteFor_14 w μ ν m) w μ ν (o + 1) (d + 1) _ (nI v) = _
    unfold b_X8_bestQuoteFor_14 b_X8_bestQuoteFor_53 b_X8_bestQuoteFor_56
    simp only [nzs, Nat.add_sub_cancel, ltt (show d < ν.2 24 by omega), q1', cond_true]
    rw [if_neg c0, ixn hv (by decide), nI_clamp (show v < 2 ^ 31 by omega), p1]
    simp only [nzs, Nat.add_sub_cancel, ltt h1, cond_true, hc, Option.bind_some, yl, ltt (show 3 * d + v < ν.2 25 by omega)]
    rw [q0, q1, nI_add, h5]
    by_cases c1 : lft a (40 + o) ≤ nI 0
    · rw [if_neg (show ¬ (¬ lft a (40 + o) ≤ nI 0 ∧ ¬ a 34 (2 * v + d) ≤ nI 0 ∧ gFits a o (2 * v + d)) from fun h => h.1 c1), if_pos (rfl : nI 0 = nI 0)]
      simp only [if_pos c1]
    · simp only [if_neg c1]
      unfold gBest1
      by_cases c2 : ¬ a 34 (2 * v + d) ≤ nI 0 ∧ gFits a o (2 * v + d)
      · rw [if_pos (show ¬ lft a (40 + o) ≤ nI 0 ∧ ¬ a 34 (2 * v + d) ≤ nI 0 ∧ gFits a o (2 * v + d) from ⟨c1, c2.1, c2.2⟩), if_neg n10]
        by_cases c3 : g = 0
        · subst c3
          rw [show qP d 0 = 0 from rfl, if_pos rfl, if_pos ⟨c2.1, c2.2, Or.inl rfl⟩]
          unfold qP
          rw [if_neg (Nat.succ_ne_zero v)]
          rfl
        · have hcp : qP d g = 3 * d + (g - 1) + 1 := by unfold qP; rw [if_neg c3]; omega
          have hb := k_better (w := w) (o := o) (d := d) (v := v) (u := g - 1) hR hd hv (by omega) e
          rw [hcp, if_neg (Nat.succ_ne_zero _), Nat.add_sub_cancel, hb]
          simp only [Option.bind_some]
          by_cases c4 : gBet a o (2 * v + d) (2 * (g - 1) + d)
          · rw [if_pos c4, if_neg n10, if_pos ⟨c2.1, c2.2, Or.inr c4⟩]
            unfold qP
            rw [if_neg (Nat.succ_ne_zero v)]
            rfl
          · rw [if_neg c4, if_pos rfl, if_neg (fun h => h.2.2.elim c3 c4), hcp]
      · rw [if_neg (show ¬ (¬ lft a (40 + o) ≤ nI 0 ∧ ¬ a 34 (2 * v + d) ≤ nI 0 ∧ gFits a o (2 * v + d)) from fun h => c2 ⟨h.2.1, h.2.2⟩), if_pos (rfl : nI 0 = nI 0), if_neg (fun h => c2 ⟨h.1, h.2.1⟩)]
  have g1 : gBest1 a d o 0 0 ≤ 1 := by unfold gBest1; split <;> omega
  have g2 : gBest1 a d o (gBest1 a d o 0 0) 1 ≤ 2 := by
    have : ∀ g, g ≤ 1 → gBest1 a d o g 1 ≤ 2 := fun g hg => by unfold gBest1; split <;> omega
    exact this _ g1
  obtain ⟨m, rfl⟩ : ∃ m, w = m + 4 := ⟨w - 4, by omega⟩
  have hq : f_X8_quotesFor (m + 4) μ ν (a 23 o) = some (d + 1) := by
    unfold f_X8_quotesFor
    rw [ltt hR.1.1, e]
    simp only [cond_true]
    rcases (show d = 0 ∨ d = 1 by omega) with rfl | rfl
    · rw [if_pos (by decide)]
    · rw [if_neg (by decide)]
  unfold f_X8_bestQuoteFor
  rw [nzs, Nat.add_sub_cancel, ltt h1, ltt hR.1.1, h5, hq]
  simp only [cond_true, Option.bind_some]
  have s0 := step 0 0 (m + 3) (by decide) (Nat.le_refl _)
  have s1 := step 1 (gBest1 a d o 0 0) (m + 2) (by decide) g1
  have s2 := step 2 (gBest1 a d o (gBest1 a d o 0 0) 1) (m + 1) (by decide) g2
  have z : (if lft a (40 + o) ≤ nI 0 then 0 else qP d 0) = 0 := by split <;> rfl
  rw [z] at s0
  refine s0.trans (s1.trans (s2.trans ?_))
  show b_X8_bestQuoteFor_14 _ (m + 4) μ ν (o + 1) (d + 1) _ (nI 3) = _
  unfold b_X8_bestQuoteFor_14
  simp only [nzs, Nat.add_sub_cancel, ltt (show d < ν.2 24 by omega), q1', cond_true]
  rw [if_pos (by decide), eg]
  rfl
