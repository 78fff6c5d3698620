/-! The queries of the line, of orders and quotes: class and reference. -/
/-- a query's outcome on both sides -/
def oq (ν : NC) (a : AS) (S : Option ((MP × NC) × AS)) : Prop := ∃ (μ' : MP) (t : Int32), S = some ((μ', ν), up2 a 0 0 t) ∧ RR μ' ν (up2 a 0 0 t)
theorem oq_ok {cs : List (Nat × Int32)} {μ : MP} {ν : NC} {a : AS} {v : Int32} (hR : RR μ ν a) : oq ν a (lwq true cs μ ν (0, ((μ, ν), v)) (up2 a 0 0 (nI 0), v) (nI 0)) := ⟨_, _, lwq_ok, RR_90 (RR_stop hR)⟩
theorem oq_x {cs : List (Nat × Int32)} {r : Nat} {t v : Int32} {μ : MP} {ν : NC} {a : AS} {x : (MP × NC) × Int32} (hR : RR μ ν a) (h0 : r ≠ 0) (h : (r, t) ∈ cs) : oq ν a (lwq true cs μ ν (r, x) (up2 a 0 0 t, v) t) := ⟨μ, t, by unfold lwq; rw [if_neg h0, if_pos h], RR_stop hR⟩
theorem eq10 : eqB 1 0 = false := rfl
theorem eq20 : eqB 2 0 = false := rfl
theorem n10 : ¬ nI 1 = (0 : Int32) := by decide
theorem sideD (x : Int32) : (∃ s : Nat, s < 2 ∧ x = nI s) ∨ (x ≠ nI 0 ∧ x ≠ nI 1) := by
  by_cases h0 : x = nI 0
  · exact Or.inl ⟨0, by decide, h0⟩
  · by_cases h1 : x = nI 1
    · exact Or.inl ⟨1, by decide, h1⟩
    · exact Or.inr ⟨h0, h1⟩
theorem side_s {s : Nat} (hs : s < 2) : ¬ (nI s < nI 0 ∨ nI 1 < nI s) := fun h => by
  rcases h with h | h
  · exact absurd h (nIb _ (by omega))
  · have := (nI_ltI (by omega) (by omega)).mp h; omega
theorem side_x {x : Int32} (h : x ≠ nI 0 ∧ x ≠ nI 1) : x < nI 0 ∨ nI 1 < x := by
  by_cases c : x < 0
  · exact Or.inl c
  · obtain ⟨j, hj, rfl⟩ := nI_of c
    refine Or.inr ((nI_ltI (by omega) hj).mpr ?_)
    have h0 : j ≠ 0 := fun e => h.1 (by rw [e])
    have h1 : j ≠ 1 := fun e => h.2 (by rw [e])
    omega
theorem k_side {w s : Nat} {μ : MP} {ν : NC} (hs : s < 2) : f_X8_requireSide w μ ν (nI s) = some (0, 0) := by
  unfold f_X8_requireSide
  rcases (show s = 0 ∨ s = 1 by omega) with rfl | rfl <;> rfl
theorem k_sideX {w : Nat} {μ : MP} {ν : NC} {x : Int32} (h : x ≠ nI 0 ∧ x ≠ nI 1) : f_X8_requireSide w μ ν x = some (1, 0) := by
  unfold f_X8_requireSide
  rw [if_neg (show ¬ x = (0 : Int32) from h.1), if_neg (show ¬ x = (1 : Int32) from h.2)]
theorem r_isSide {w s : Nat} {a : AS} (hs : s < 2) : f_X9_isSide w a (nI s) = some (nI 1) := by
  unfold f_X9_isSide
  rw [q0, q1, r_in, if_neg (side_s hs)]
  rfl
theorem r_isSideX {w : Nat} {a : AS} {x : Int32} (h : x ≠ nI 0 ∧ x ≠ nI 1) : f_X9_isSide w a x = some (nI 0) := by
  unfold f_X9_isSide
  rw [q0, q1, r_in, if_pos (side_x h)]
  rfl
theorem r_asks {w s : Nat} {a : AS} (hs : s < 2) : f_X9_asks w a (nI s) = some (up2 a 0 0 (nI 0), nI 1) := by
  unfold f_X9_asks b_X9_asks_13
  rw [r_isSide hs]
  simp only [Option.bind_some, yl]
  rw [if_neg n10, up2_s]
  rfl
theorem r_asksX {w : Nat} {a : AS} {x : Int32} (h : x ≠ nI 0 ∧ x ≠ nI 1) : f_X9_asks w a x = some (up2 a 0 0 (nI 1), nI 0) := by
  unfold f_X9_asks b_X9_asks_13
  rw [r_isSideX h]
  simp only [Option.bind_some, yl]
  rw [if_pos (show nI 0 = (0 : Int32) from rfl), up2_s, if_neg (show ¬ (1 : Int32) = 0 by decide)]
  rfl
theorem o_isUp {w : Nat} {μ : MP} {ν : NC} {a : AS} (hR : RR μ ν a) : oq ν a (s_isUp w μ ν a) := by
  obtain ⟨y1, y2, y3, y4⟩ := hR.2.2.1
  have hb : boB (a 0 2) = true := by
    unfold boB
    rcases y4 with h | h <;> rw [h] <;> rfl
  have e2 : up2 a 0 0 (0 : Int32) 0 2 = a 0 2 := up2_n _ _ (by omega)
  unfold s_isUp f_X8_isUp f_X9_isUp
  rw [ltt hR.1.1, y1, hb]
  simp only [cond_true, Option.bind_some, yl]
  rw [e2, hb]
  simp only [cond_true, Option.bind_some]
  rw [if_pos trivial]
  exact ⟨_, _, rfl, RR_stop hR⟩
theorem o_isOn {w : Nat} {μ : MP} {ν : NC} {a : AS} {x : Int32} (hR : RR μ ν a) : oq ν a (s_isOn w μ ν a x) := by
  have z1 := hR.1.2.1
  unfold s_isOn f_X8_isOn f_X9_isOn
  rcases sideD x with ⟨s, hs, rfl⟩ | h
  · obtain ⟨y1, y2, y3, y4, y5, y6, y7, y8⟩ := hR.2.2.2.1 s hs
    have hb : boB (a 3 s) = true := by
      unfold boB
      rcases y7 with h | h <;> rw [h] <;> rfl
    have e3 : up2 a 0 0 (nI 0) 3 s = a 3 s := up2_n _ _ (by omega)
    rw [k_side hs, r_asks hs]
    simp only [Option.bind_some]
    rw [eqs, ltt hR.1.1, k_party hR.1 hs]
    simp only [cond_true, Option.bind_some]
    rw [nzs, Nat.add_sub_cancel, ltt (show s < ν.2 1 by omega), y1, hb, if_neg n10, ixn hs (by decide), nI_clamp (by omega), e3]
    simp only [cond_true, Option.bind_some]
    rcases y7 with h | h
    · rw [h, if_pos (show nI 0 = (0 : Int32) from rfl)]
      simp only [Option.bind_some]
      rw [r_thrown, up2_s]
      exact oq_ok hR
    · rw [h, if_neg n10]
      simp only [Option.bind_some]
      rw [r_thrown, up2_s]
      exact oq_ok hR
  · rw [k_sideX h, r_asksX h]
    simp only [Option.bind_some]
    rw [if_pos (show nI 0 = (0 : Int32) from rfl)]
    simp only [Option.bind_some]
    simp only [eq10, cond_false, Option.bind_some, r_thrown, up2_s]
    refine oq_x hR ?_ ?_ <;> decide
theorem o_onWay {w : Nat} {μ : MP} {ν : NC} {a : AS} {x : Int32} (hR : RR μ ν a) : oq ν a (s_onWay w μ ν a x) := by
  obtain ⟨z0, z1, z2, z3, z4, -⟩ := id hR.1
  unfold s_onWay f_X8_onWay f_X9_onWay
  rcases sideD x with ⟨s, hs, rfl⟩ | h
  · have ev : μ.1 2 s 4 = a 20 s := by
      obtain ⟨h, c, H, x1, x2, x3, x4, -⟩ := (hR.2.2.2.2.2.1 s hs)
      exact x2.trans x4.symm
    have e3 : up2 a 0 0 (nI 0) 20 s = a 20 s := up2_n _ _ (by omega)
    rw [k_side hs, r_asks hs]
    simp only [Option.bind_some]
    rw [eqs, ltt hR.1.1, k_party hR.1 hs]
    simp only [cond_true, Option.bind_some]
    rw [nzs, Nat.add_sub_cancel, ltt (show s < ν.2 1 by omega), ltt (show s < ν.2 2 by omega), ev, if_neg n10, ixn hs (by decide), nI_clamp (by omega), e3]
    simp only [cond_true, Option.bind_some]
    rw [r_thrown, up2_s]
    exact oq_ok hR
  · rw [k_sideX h, r_asksX h]
    simp only [Option.bind_some]
    rw [if_pos (show nI 0 = (0 : Int32) from rfl)]
    simp only [Option.bind_some]
    simp only [eq10, cond_false, Option.bind_some, r_thrown, up2_s]
    refine oq_x hR ?_ ?_ <;> decide
theorem o_sent {w : Nat} {μ : MP} {ν : NC} {a : AS} {x : Int32} (hR : RR μ ν a) : oq ν a (s_sent w μ ν a x) := by
  obtain ⟨z0, z1, z2, z3, z4, -⟩ := id hR.1
  unfold s_sent f_X8_sent f_X9_sent
  rcases sideD x with ⟨s, hs, rfl⟩ | h
  · have ev : μ.1 4 s 2 = a 4 s := (hR.2.2.2.2.1.1 s hs).1
    have e3 : up2 a 0 0 (nI 0) 4 s = a 4 s := up2_n _ _ (by omega)
    rw [k_side hs, r_asks hs]
    simp only [Option.bind_some]
    rw [eqs, ltt hR.1.1, k_party hR.1 hs]
    simp only [cond_true, Option.bind_some]
    rw [nzs, Nat.add_sub_cancel, ltt (show s < ν.2 1 by omega), ltt (show s < ν.2 4 by omega), ev, if_neg n10, ixn hs (by decide), nI_clamp (by omega), e3]
    simp only [cond_true, Option.bind_some]
    rw [r_thrown, up2_s]
    exact oq_ok hR
  · rw [k_sideX h, r_asksX h]
    simp only [Option.bind_some]
    rw [if_pos (show nI 0 = (0 : Int32) from rfl)]
    simp only [Option.bind_some]
    simp only [eq10, cond_false, Option.bind_some, r_thrown, up2_s]
    refine oq_x hR ?_ ?_ <;> decide
theorem o_expected {w : Nat} {μ : MP} {ν : NC} {a : AS} {x : Int32} (hR : RR μ ν a) : oq ν a (s_expected w μ ν a x) := by
  obtain ⟨z0, z1, z2, z3, z4, -⟩ := id hR.1
  unfold s_expected f_X8_expected f_X9_expected
  rcases sideD x with ⟨s, hs, rfl⟩ | h
  · have ev : μ.1 1 s 4 = a 5 s := (hR.2.2.2.1 s hs).2.1
    have e3 : up2 a 0 0 (nI 0) 5 s = a 5 s := up2_n _ _ (by omega)
    rw [k_side hs, r_asks hs]
    simp only [Option.bind_some]
    rw [eqs, ltt hR.1.1, k_party hR.1 hs]
    simp only [cond_true, Option.bind_some]
    rw [nzs, Nat.add_sub_cancel, ltt (show s < ν.2 1 by omega), ev, if_neg n10, ixn hs (by decide), nI_clamp (by omega), e3]
    simp only [cond_true, Option.bind_some]
    rw [r_thrown, up2_s]
    exact oq_ok hR
  · rw [k_sideX h, r_asksX h]
    simp only [Option.bind_some]
    rw [if_pos (show nI 0 = (0 : Int32) from rfl)]
    simp only [Option.bind_some]
    simp only [eq10, cond_false, Option.bind_some, r_thrown, up2_s]
    refine oq_x hR ?_ ?_ <;> decide
theorem o_held {w : Nat} {μ : MP} {ν : NC} {a : AS} {x : Int32} (hR : RR μ ν a) : oq ν a (s_held w μ ν a x) := by
  obtain ⟨z0, z1, z2, z3, z4, -⟩ := id hR.1
  unfold s_held f_X8_held f_X9_held
  rcases sideD x with ⟨s, hs, rfl⟩ | h
  · have ev : μ.1 3 s 1 = a 6 s := (hR.2.2.2.2.2.2.1 s hs).1
    have e3 : up2 a 0 0 (nI 0) 6 s = a 6 s := up2_n _ _ (by omega)
    rw [k_side hs, r_asks hs]
    simp only [Option.bind_some]
    rw [eqs, ltt hR.1.1, k_party hR.1 hs]
    simp only [cond_true, Option.bind_some]
    rw [nzs, Nat.add_sub_cancel, ltt (show s < ν.2 1 by omega), ltt (show s < ν.2 3 by omega), ev, if_neg n10, ixn hs (by decide), nI_clamp (by omega), e3]
    simp only [cond_true, Option.bind_some]
    rw [r_thrown, up2_s]
    exact oq_ok hR
  · rw [k_sideX h, r_asksX h]
    simp only [Option.bind_some]
    rw [if_pos (show nI 0 = (0 : Int32) from rfl)]
    simp only [Option.bind_some]
    simp only [eq10, cond_false, Option.bind_some, r_thrown, up2_s]
    refine oq_x hR ?_ ?_ <;> decide
/-- an order's number, or none -/
theorem ordD {μ : MP} {ν : NC} {a : AS} (hR : RR μ ν a) (x : Int32) : (∃ o : Nat, o < tn (a 0 22) ∧ x = nI o) ∨ (x < 0 ∨ a 0 22 ≤ x) := by
  obtain ⟨y1, k, y2, y3, -⟩ := hR.2.2.2.2.2.2.2.1
  by_cases c : x < 0
  · exact Or.inr (Or.inl c)
  · obtain ⟨j, hj, rfl⟩ := nI_of c
    by_cases c1 : j < k
    · exact Or.inl ⟨j, by rw [y2, tnI (by omega)]; exact c1, rfl⟩
    · exact Or.inr (Or.inr (by rw [y2]; exact (nI_leI (by omega) hj).mpr (by omega)))
theorem ordK {μ : MP} {ν : NC} {a : AS} (hR : RR μ ν a) : ∃ k : Nat, a 0 22 = nI k ∧ k ≤ 40 ∧ tn (a 0 22) = k := by
  obtain ⟨y1, k, y2, y3, -⟩ := hR.2.2.2.2.2.2.2.1
  exact ⟨k, y2, y3, by rw [y2, tnI (by omega)]⟩
theorem r_asksO {w o : Nat} {μ : MP} {ν : NC} {a : AS} (hR : RR μ ν a) (ho : o < tn (a 0 22)) : f_X9_asksOrder w a (nI o) = some (up2 a 0 0 (nI 0), nI 1) := by
  obtain ⟨k, y2, y3, y4⟩ := ordK hR
  unfold f_X9_asksOrder b_X9_asksOrder_14
  rw [r_isOrd y2 y3 (by omega)]
  simp only [Option.bind_some, yl]
  rw [if_neg n10, up2_s]
  rfl
theorem r_asksOX {w : Nat} {μ : MP} {ν : NC} {a : AS} {x : Int32} (hR : RR μ ν a) (h : x < 0 ∨ a 0 22 ≤ x) : f_X9_asksOrder w a x = some (up2 a 0 0 (nI 1), nI 0) := by
  obtain ⟨k, y2, y3, y4⟩ := ordK hR
  unfold f_X9_asksOrder b_X9_asksOrder_14
  rw [r_isOrdX y2 y3 (by rw [← y2]; exact h)]
  simp only [Option.bind_some, yl]
  rw [if_pos (show nI 0 = (0 : Int32) from rfl), up2_s, if_neg (show ¬ (1 : Int32) = 0 by decide)]
  rfl
theorem o_stateOf {w : Nat} {μ : MP} {ν : NC} {a : AS} {x : Int32} (hR : RR μ ν a) : oq ν a (s_stateOf w μ ν a x) := by
  unfold s_stateOf f_X8_stateOf f_X9_stateOf
  rw [ltt hR.1.1]
  rcases ordD hR x with ⟨o, ho, rfl⟩ | h
  · obtain ⟨o1, o2, o3, -⟩ := ordOf hR ho
    rw [k_reqO hR ho, r_asksO hR ho]
    simp only [cond_true, Option.bind_some]
    rw [eqs, nzs, Nat.add_sub_cancel, ltt o1, k_state hR ho, if_neg n10, r_state o3]
    simp only [cond_true, Option.bind_some]
    rw [r_thrown, up2_s]
    exact oq_ok hR
  · rw [k_reqOX hR h, r_asksOX hR h]
    simp only [cond_true, Option.bind_some]
    rw [if_pos (show nI 0 = (0 : Int32) from rfl)]
    simp only [Option.bind_some]
    simp only [eq10, cond_false, Option.bind_some, r_thrown, up2_s]
    refine oq_x hR ?_ ?_ <;> decide
theorem o_isLeftOut {w : Nat} {μ : MP} {ν : NC} {a : AS} {x : Int32} (hR : RR μ ν a) : oq ν a (s_isLeftOut w μ ν a x) := by
  unfold s_isLeftOut f_X8_isLeftOut f_X9_isLeftOut
  rw [ltt hR.1.1]
  rcases ordD hR x with ⟨o, ho, rfl⟩ | h
  · obtain ⟨o1, o2, o3, o4, o5, o6, o7, o8, o9, o10, o11⟩ := ordOf hR ho
    have e29 : up2 a 0 0 (nI 0) 29 o = a 29 o := up2_n _ _ (by omega)
    have e24 : up2 a 0 0 (nI 0) 24 o = a 24 o := up2_n _ _ (by omega)
    rw [k_reqO hR ho, r_asksO hR ho]
    simp only [cond_true, Option.bind_some]
    rw [eqs, nzs, Nat.add_sub_cancel, ltt o1, o8, o7, if_neg n10, ixn o3 (by decide), nI_clamp (by omega), e29]
    simp only [cond_true, Option.bind_some]
    unfold f_X9_isPending
    rw [ixn (show o < 80 by omega) (by decide), nI_clamp (by omega), e24]
    simp only [cond_true]
    by_cases c : a 29 o = (0 : Int32)
    · rw [if_pos c, if_pos c]
      simp only [Option.bind_some]
      rw [r_thrown, up2_s]
      exact oq_ok hR
    · rw [if_neg c, if_neg c]
      by_cases c1 : a 24 o = (0 : Int32)
      · rw [if_pos c1, if_pos c1]
        simp only [Option.bind_some]
        rw [if_neg (show ¬ (1 : Int32) = 0 by decide)]
        simp only [Option.bind_some]
        rw [r_thrown, up2_s]
        exact oq_ok hR
      · rw [if_neg c1, if_neg c1]
        simp only [Option.bind_some]
        rw [if_pos trivial]
        simp only [Option.bind_some]
        rw [r_thrown, up2_s]
        exact oq_ok hR
  · rw [k_reqOX hR h, r_asksOX hR h]
    simp only [cond_true, Option.bind_some]
    rw [if_pos (show nI 0 = (0 : Int32) from rfl)]
    simp only [Option.bind_some]
    simp only [eq10, cond_false, Option.bind_some, r_thrown, up2_s]
    refine oq_x hR ?_ ?_ <;> decide
theorem o_underWay {w : Nat} {μ : MP} {ν : NC} {a : AS} {x : Int32} (hR : RR μ ν a) : oq ν a (s_underWay w μ ν a x) := by
  unfold s_underWay f_X8_underWay f_X9_underWay
  rw [ltt hR.1.1]
  rcases ordD hR x with ⟨o, ho, rfl⟩ | h
  · obtain ⟨o1, o2, o3, o4, o5, o6, o7, o8, o9, o10, o11⟩ := ordOf hR ho
    have e30 : up2 a 0 0 (nI 0) 30 o = a 30 o := up2_n _ _ (by omega)
    rw [k_reqO hR ho, r_asksO hR ho]
    simp only [cond_true, Option.bind_some]
    rw [eqs, nzs, Nat.add_sub_cancel, ltt o1, o10, if_neg n10, ixn o3 (by decide), nI_clamp (by omega), e30]
    simp only [cond_true, Option.bind_some]
    rw [r_thrown, up2_s]
    exact oq_ok hR
  · rw [k_reqOX hR h, r_asksOX hR h]
    simp only [cond_true, Option.bind_some]
    rw [if_pos (show nI 0 = (0 : Int32) from rfl)]
    simp only [Option.bind_some]
    simp only [eq10, cond_false, Option.bind_some, r_thrown, up2_s]
    refine oq_x hR ?_ ?_ <;> decide
theorem o_executions {w : Nat} {μ : MP} {ν : NC} {a : AS} (hR : RR μ ν a) : oq ν a (s_executions w μ ν a) := by
  have e : up2 a 0 0 (0 : Int32) 0 35 = a 0 35 := up2_n _ _ (by omega)
  have z4 := hR.1.2.2.2.2.1
  unfold s_executions f_X8_executions f_X9_executions
  rw [ltt hR.1.1, ltt (show 5 < ν.2 4 by omega), hR.2.2.2.2.2.2.2.2.1.1]
  simp only [cond_true, Option.bind_some, yl]
  rw [e, if_pos rfl]
  exact ⟨_, _, rfl, RR_stop hR⟩
theorem o_orders {w : Nat} {μ : MP} {ν : NC} {a : AS} (hR : RR μ ν a) : oq ν a (s_orders w μ ν a) := by
  have e : up2 a 0 0 (0 : Int32) 0 22 = a 0 22 := up2_n _ _ (by omega)
  have z4 := hR.1.2.2.2.2.1
  unfold s_orders f_X8_orders f_X9_orders
  rw [ltt hR.1.1, ltt (show 2 < ν.2 4 by omega), hR.2.2.2.2.2.2.2.1.1]
  simp only [cond_true, Option.bind_some, yl]
  rw [e, if_pos rfl]
  exact ⟨_, _, rfl, RR_stop hR⟩
theorem o_endDay {w : Nat} {μ : MP} {ν : NC} {a : AS} (hR : RR μ ν a) : ∃ μ' : MP, s_endDay w μ ν a = some ((μ', ν), up2 (up2 a 0 0 (nI 0)) 0 44 (a 0 44 + 1)) ∧ RR μ' ν (up2 (up2 a 0 0 (nI 0)) 0 44 (a 0 44 + 1)) := by
  obtain ⟨h0, hF, ⟨y1, y2, y3, y4⟩, h2, h3, h4, h5, h6, h7, h8, h9⟩ := RR_stop (v := nI 0) hR
  have e : up2 a 0 0 (nI 0) 0 44 = a 0 44 := up2_n _ _ (by omega)
  rw [e] at y3
  refine ⟨uM μ 0 0 10 (a 0 44 + 1), ?_, h0, hF, ⟨?_, ?_, ?_, ?_⟩, h2, h3, h4, h5, h6, h7, h8, h9⟩
  · unfold s_endDay f_X8_endDay f_X9_endDay
    rw [ltt hR.1.1]
    simp only [cond_true, Option.bind_some, yl]
    rw [y3, uM_s, up1_s, q0, e, up2_s, if_pos rfl]
  · rw [uM_s, up1_n _ _ (by decide)]; exact y1
  · rw [uM_s, up1_n _ _ (by decide)]; exact y2
  · rw [uM_s, up1_s, up2_s]
  · exact y4
/-- a quote's place -/
theorem k_reqQ {w v d : Nat} {μ : MP} {ν : NC} {a : AS} (hR : RR μ ν a) (hv : v < 3) (hd : d < 2) : f_X8_requireQuote w μ ν (nI v) (nI d) = some (0, 3 * d + v + 1) := by
  obtain ⟨g1, g2⟩ := hR.2.2.2.2.2.2.2.2.2.1 d hd
  obtain ⟨p1, -⟩ := g2 v hv
  obtain ⟨z0, z1, z2, z3, z4, z5, z10, z11, z12, z13, z24, -⟩ := id hR.1
  have hq : f_X8_quotesFor w μ ν (nI d) = some (d + 1) := by
    unfold f_X8_quotesFor
    rw [ltt z0]
    rcases (show d = 0 ∨ d = 1 by omega) with rfl | rfl <;> rfl
  unfold f_X8_requireQuote
  rw [ltt z0, hq]
  simp only [cond_true, Option.bind_some]
  rw [if_neg (nIb _ (by omega)), nzs, Nat.add_sub_cancel, ltt (show d < ν.2 24 by omega), g1, if_pos ((nI_ltI (by omega) (by omega)).mpr hv), ixn hv (by decide), nI_clamp (by omega), p1, nzs, Nat.add_sub_cancel]
  rfl
theorem k_reqQX {w d : Nat} {μ : MP} {ν : NC} {a : AS} {x : Int32} (hR : RR μ ν a) (h : x < 0 ∨ nI 3 ≤ x) (hd : d < 2) : f_X8_requireQuote w μ ν x (nI d) = some (1, 0) := by
  obtain ⟨g1, g2⟩ := hR.2.2.2.2.2.2.2.2.2.1 d hd
  obtain ⟨z0, z1, z2, z3, z4, z5, z10, z11, z12, z13, z24, -⟩ := id hR.1
  have hq : f_X8_quotesFor w μ ν (nI d) = some (d + 1) := by
    unfold f_X8_quotesFor
    rw [ltt z0]
    rcases (show d = 0 ∨ d = 1 by omega) with rfl | rfl <;> rfl
  unfold f_X8_requireQuote
  rw [ltt z0, hq]
  simp only [cond_true, Option.bind_some]
  by_cases c : x < 0
  · rw [if_pos c]; rfl
  · rw [if_neg c, nzs, Nat.add_sub_cancel, ltt (show d < ν.2 24 by omega), g1, if_neg (Int32.not_lt.mpr (h.resolve_left c))]; rfl
theorem venD (x : Int32) : (∃ v : Nat, v < 3 ∧ x = nI v) ∨ (x < 0 ∨ nI 3 ≤ x) := by
  by_cases c : x < 0
  · exact Or.inr (Or.inl c)
  · obtain ⟨j, hj, rfl⟩ := nI_of c
    by_cases c1 : j < 3
    · exact Or.inl ⟨j, c1, rfl⟩
    · exact Or.inr (Or.inr ((nI_leI (by omega) hj).mpr (by omega)))
theorem r_isVen {w v : Nat} {a : AS} (hv : v < 3) : f_X9_isVenue w a (nI v) = some (nI 1) := by
  have c : ¬ (nI v < nI 0 ∨ nI 2 < nI v) := fun h => by
    rcases h with h | h
    · exact absurd h (nIb _ (by omega))
    · have := (nI_ltI (by omega) (by omega)).mp h; omega
  unfold f_X9_isVenue
  rw [q0, q2, r_in, if_neg c]
  rfl
theorem r_isVenX {w : Nat} {a : AS} {x : Int32} (h : x < 0 ∨ nI 3 ≤ x) : f_X9_isVenue w a x = some (nI 0) := by
  have c : x < nI 0 ∨ nI 2 < x := by
    rcases h with h | h
    · exact Or.inl h
    · by_cases c : x < 0
      · exact Or.inl c
      · obtain ⟨j, hj, rfl⟩ := nI_of c
        have := (nI_leI (by omega) hj).mp h
        exact Or.inr ((nI_ltI (by omega) hj).mpr (by omega))
  unfold f_X9_isVenue
  rw [q0, q2, r_in, if_pos c]
  rfl
theorem nzD (x : Int32) : ∃ d : Nat, d < 2 ∧ nz x = nI d := by
  unfold nz
  by_cases c : x = 0
  · exact ⟨0, by decide, by rw [if_pos c]; rfl⟩
  · exact ⟨1, by decide, by rw [if_neg c]; rfl⟩
theorem o_quoted {w : Nat} {μ : MP} {ν : NC} {a : AS} {x y : Int32} (hR : RR μ ν a) : oq ν a (s_quoted w μ ν a x y) := by
  unfold s_quoted
  obtain ⟨d, hd, ed⟩ := nzD y
  rw [ed]
  unfold f_X8_quoted f_X9_quoted
  rw [ltt hR.1.1]
  rcases venD x with ⟨v, hv, rfl⟩ | h
  · obtain ⟨g1, g2⟩ := hR.2.2.2.2.2.2.2.2.2.1 d hd
    obtain ⟨p1, p2, p3, p4⟩ := g2 v hv
    have z25 := hR.1.2.2.2.2.2.2.2.2.2.2.2.1
    have e34 : up2 a 0 0 (nI 0) 34 (2 * v + d) = a 34 (2 * v + d) := up2_n _ _ (by omega)
    have hq : b_X9_quoted_13 w a (nI v) (nI d) (nI 0) = some (up2 a 0 0 (nI 0), a 34 (2 * v + d)) := by
      unfold b_X9_quoted_13
      simp only [yl]
      rw [up2_s, if_pos (show nI 0 ≤ (0 : Int32) by decide)]
      unfold b_X9_quoted_43
      rcases (show d = 0 ∨ d = 1 by omega) with rfl | rfl
      · rw [if_pos (show nI 0 = (0 : Int32) from rfl), q0, q2, pk_mul, nI_add, ixn (show 2 * v + 0 < 6 by omega) (by decide), nI_clamp (by omega), e34]; rfl
      · rw [if_neg n10, q1, q2, pk_mul, nI_add, ixn (show 2 * v + 1 < 6 by omega) (by decide), nI_clamp (by omega), e34]; rfl
    rw [k_reqQ hR hv hd, r_isVen hv]
    simp only [cond_true, Option.bind_some]
    rw [eqs, nzs, Nat.add_sub_cancel, ltt (show 3 * d + v < ν.2 25 by omega), p4, if_neg n10, show (0 : Int32) = nI 0 from rfl, hq]
    simp only [cond_true, Option.bind_some]
    rw [r_thrown, up2_s]
    exact oq_ok hR
  · have hq : b_X9_quoted_13 w a x (nI d) (nI 1) = some (up2 a 0 0 (nI 1), nI 0) := by
      unfold b_X9_quoted_13
      simp only [yl]
      rw [up2_s, if_neg (show ¬ nI 1 ≤ (0 : Int32) by decide)]
      rfl
    rw [k_reqQX hR h hd, r_isVenX h]
    simp only [cond_true, Option.bind_some]
    rw [if_pos (show nI 0 = (0 : Int32) from rfl), show (1 : Int32) = nI 1 from rfl, hq]
    simp only [Option.bind_some]
    simp only [eq10, cond_false, Option.bind_some, r_thrown, up2_s]
    refine oq_x hR ?_ ?_ <;> decide
