/-! What the class answers when it is asked. -/
variable {Hh Hg : Nat → Nat}
theorem jq_isUp {w N T : Nat} {μ : MP} {ν : NC} {a : AS} (hJ : JC N T μ ν a) : f_X8_isUp w μ ν = some (a 0 2) := by
  have hR := JC_RR hJ
  obtain ⟨y1, y2, y3, y4⟩ := hR.2.2.1
  have hb : boB (a 0 2) = true := by
    unfold boB
    rcases y4 with h | h <;> rw [h] <;> rfl
  unfold f_X8_isUp
  rw [ltt hR.1.1, y1, hb]
  rfl
theorem jq_orders {w N T : Nat} {μ : MP} {ν : NC} {a : AS} (hJ : JC N T μ ν a) : f_X8_orders w μ ν = some (a 0 22) := by
  have hR := JC_RR hJ
  have z4 := hR.1.2.2.2.2.1
  unfold f_X8_orders
  rw [ltt hR.1.1, ltt (show 2 < ν.2 4 by omega), hR.2.2.2.2.2.2.2.1.1]
  rfl
theorem jq_execs {w N T : Nat} {μ : MP} {ν : NC} {a : AS} (hJ : JC N T μ ν a) : f_X8_executions w μ ν = some (a 0 35) := by
  have hR := JC_RR hJ
  have z4 := hR.1.2.2.2.2.1
  unfold f_X8_executions
  rw [ltt hR.1.1, ltt (show 5 < ν.2 4 by omega), hR.2.2.2.2.2.2.2.2.1.1]
  rfl
theorem jq_agree {w N T : Nat} {μ : MP} {ν : NC} {a : AS} (hw : 1000 < w) (hJ : JC N T μ ν a) : f_X8_agree w μ ν = some (ypI (agA a (tn (a 0 22)))) := by
  have hR := JC_RR hJ
  obtain ⟨k, e22, hk, ek⟩ := ordK hR
  have h1 := k_agrL (w := w) hR ek k 0 w (by omega) (by omega) trivial
  unfold f_X8_agree
  rw [ek]
  exact h1
theorem jq_isOn {w N T s : Nat} {μ : MP} {ν : NC} {a : AS} (hJ : JC N T μ ν a) (hs : s < 2) : f_L_isOn w μ ν (nI s) = some ((μ, ν), a 3 s) := by
  have hR := JC_RR hJ
  have z1 := hR.1.2.1
  obtain ⟨y1, y2, y3, y4, y5, y6, y7, y8⟩ := hR.2.2.2.1 s hs
  have hb : boB (a 3 s) = true := by
    unfold boB
    rcases y7 with h | h <;> rw [h] <;> rfl
  have hn : nz (a 3 s) = a 3 s := by
    unfold nz
    rcases y7 with h | h <;> rw [h] <;> rfl
  unfold f_L_isOn f_X8_isOn
  rw [k_side hs]
  simp only [Option.bind_some]
  rw [eqs, ltt hR.1.1, k_party hR.1 hs]
  simp only [cond_true, Option.bind_some]
  rw [nzs, Nat.add_sub_cancel, ltt (show s < ν.2 1 by omega), y1, hb]
  simp only [cond_true, Option.bind_some]
  rw [if_pos trivial, hn]
theorem jq_isOnX {w N T : Nat} {μ : MP} {ν : NC} {a : AS} {x : Int32} (hJ : JC N T μ ν a) (h : x ≠ nI 0 ∧ x ≠ nI 1) : f_L_isOn w μ ν x = some ((μ, chg ν 1 6), (-7100 : Int32)) := by
  unfold f_L_isOn f_X8_isOn
  rw [k_sideX h]
  rfl
theorem jq_onWay {w N T s : Nat} {μ : MP} {ν : NC} {a : AS} (hJ : JC N T μ ν a) (hs : s < 2) : f_L_onWay w μ ν (nI s) = some ((μ, ν), a 20 s) := by
  have hR := JC_RR hJ
  obtain ⟨z0, z1, z2, z3, z4, -⟩ := id hR.1
  have ev : μ.1 2 s 4 = a 20 s := by
    obtain ⟨h, c, H, x1, x2, x3, x4, -⟩ := (hR.2.2.2.2.2.1 s hs)
    exact x2.trans x4.symm
  unfold f_L_onWay f_X8_onWay
  rw [k_side hs]
  simp only [Option.bind_some]
  rw [eqs, ltt hR.1.1, k_party hR.1 hs]
  simp only [cond_true, Option.bind_some]
  rw [nzs, Nat.add_sub_cancel, ltt (show s < ν.2 1 by omega), ltt (show s < ν.2 2 by omega), ev]
  rfl
theorem jq_sent {w N T s : Nat} {μ : MP} {ν : NC} {a : AS} (hJ : JC N T μ ν a) (hs : s < 2) : f_L_sent w μ ν (nI s) = some ((μ, ν), a 4 s) := by
  have hR := JC_RR hJ
  obtain ⟨z0, z1, z2, z3, z4, -⟩ := id hR.1
  have ev : μ.1 4 s 2 = a 4 s := (hR.2.2.2.2.1.1 s hs).1
  unfold f_L_sent f_X8_sent
  rw [k_side hs]
  simp only [Option.bind_some]
  rw [eqs, ltt hR.1.1, k_party hR.1 hs]
  simp only [cond_true, Option.bind_some]
  rw [nzs, Nat.add_sub_cancel, ltt (show s < ν.2 1 by omega), ltt (show s < ν.2 4 by omega), ev]
  rfl
theorem jq_expected {w N T s : Nat} {μ : MP} {ν : NC} {a : AS} (hJ : JC N T μ ν a) (hs : s < 2) : f_L_expected w μ ν (nI s) = some ((μ, ν), a 5 s) := by
  have hR := JC_RR hJ
  obtain ⟨z0, z1, z2, z3, z4, -⟩ := id hR.1
  have ev : μ.1 1 s 4 = a 5 s := (hR.2.2.2.1 s hs).2.1
  unfold f_L_expected f_X8_expected
  rw [k_side hs]
  simp only [Option.bind_some]
  rw [eqs, ltt hR.1.1, k_party hR.1 hs]
  simp only [cond_true, Option.bind_some]
  rw [nzs, Nat.add_sub_cancel, ltt (show s < ν.2 1 by omega), ev]
  rfl
theorem jq_expectedX {w N T : Nat} {μ : MP} {ν : NC} {a : AS} {x : Int32} (hJ : JC N T μ ν a) (h : x ≠ nI 0 ∧ x ≠ nI 1) : f_L_expected w μ ν x = some ((μ, chg ν 1 6), (-7100 : Int32)) := by
  unfold f_L_expected f_X8_expected
  rw [k_sideX h]
  rfl
theorem jq_held {w N T s : Nat} {μ : MP} {ν : NC} {a : AS} (hJ : JC N T μ ν a) (hs : s < 2) : f_L_held w μ ν (nI s) = some ((μ, ν), a 6 s) := by
  have hR := JC_RR hJ
  obtain ⟨z0, z1, z2, z3, z4, -⟩ := id hR.1
  have ev : μ.1 3 s 1 = a 6 s := (hR.2.2.2.2.2.2.1 s hs).1
  unfold f_L_held f_X8_held
  rw [k_side hs]
  simp only [Option.bind_some]
  rw [eqs, ltt hR.1.1, k_party hR.1 hs]
  simp only [cond_true, Option.bind_some]
  rw [nzs, Nat.add_sub_cancel, ltt (show s < ν.2 1 by omega), ltt (show s < ν.2 3 by omega), ev]
  rfl
theorem jq_heldX {w N T : Nat} {μ : MP} {ν : NC} {a : AS} {x : Int32} (hJ : JC N T μ ν a) (h : x ≠ nI 0 ∧ x ≠ nI 1) : f_L_held w μ ν x = some ((μ, chg ν 1 6), (-7100 : Int32)) := by
  unfold f_L_held f_X8_held
  rw [k_sideX h]
  rfl
theorem jq_stateOf {w N T o : Nat} {μ : MP} {ν : NC} {a : AS} (hJ : JC N T μ ν a) (ho : o < tn (a 0 22)) : f_L_stateOf w μ ν (nI o) = some ((μ, ν), stO a o) := by
  have hR := JC_RR hJ
  obtain ⟨o1, o2, o3, -⟩ := ordOf hR ho
  unfold f_L_stateOf f_X8_stateOf
  rw [ltt hR.1.1, k_reqO hR ho]
  simp only [cond_true, Option.bind_some]
  rw [eqs, nzs, Nat.add_sub_cancel, ltt o1, k_state hR ho]
  rfl
theorem jq_stateOfX {w N T : Nat} {μ : MP} {ν : NC} {a : AS} {x : Int32} (hJ : JC N T μ ν a) (h : x < 0 ∨ a 0 22 ≤ x) : f_L_stateOf w μ ν x = some ((μ, chg ν 1 6), (-7100 : Int32)) := by
  have hR := JC_RR hJ
  unfold f_L_stateOf f_X8_stateOf
  rw [ltt hR.1.1, k_reqOX hR h]
  rfl
theorem jq_leftOut {w N T o : Nat} {μ : MP} {ν : NC} {a : AS} (hJ : JC N T μ ν a) (ho : o < tn (a 0 22)) : f_L_isLeftOut w μ ν (nI o) = some ((μ, ν), if a 29 o = nI 0 then nI 0 else if a 24 o = nI 0 then nI 1 else nI 0) := by
  have hR := JC_RR hJ
  obtain ⟨o1, o2, o3, o4, o5, o6, o7, o8, o9, o10, o11⟩ := ordOf hR ho
  unfold f_L_isLeftOut f_X8_isLeftOut
  rw [ltt hR.1.1, k_reqO hR ho]
  simp only [cond_true, Option.bind_some]
  rw [eqs, nzs, Nat.add_sub_cancel, ltt o1, o8, o7]
  simp only [cond_true, Option.bind_some]
  by_cases c : a 29 o = (0 : Int32)
  · rw [if_pos c, if_pos (show a 29 o = nI 0 from c)]; rfl
  · rw [if_neg c, if_neg (show ¬ a 29 o = nI 0 from c)]
    by_cases c1 : a 24 o = (0 : Int32)
    · rw [if_pos c1, if_pos (show a 24 o = nI 0 from c1)]; rfl
    · rw [if_neg c1, if_neg (show ¬ a 24 o = nI 0 from c1)]; rfl
theorem jq_underWay {w N T o : Nat} {μ : MP} {ν : NC} {a : AS} (hJ : JC N T μ ν a) (ho : o < tn (a 0 22)) : f_L_underWay w μ ν (nI o) = some ((μ, ν), a 30 o) := by
  have hR := JC_RR hJ
  obtain ⟨o1, o2, o3, o4, o5, o6, o7, o8, o9, o10, o11⟩ := ordOf hR ho
  unfold f_L_underWay f_X8_underWay
  rw [ltt hR.1.1, k_reqO hR ho]
  simp only [cond_true, Option.bind_some]
  rw [eqs, nzs, Nat.add_sub_cancel, ltt o1, o10]
  rfl
theorem jq_venues {w N T o : Nat} {μ : MP} {ν : NC} {a : AS} (hw : 1000 < w) (hJ : JC N T μ ν a) (ho : o < tn (a 0 22)) : f_L_venues w μ ν (nI o) = some ((μ, ν), nI (yvN a o (tn (a 0 35)) 3)) := by
  have hR := JC_RR hJ
  obtain ⟨K, e35, hK, eK, -⟩ := exeK hR
  have h3 := k_venL (w := w) hR ho eK (by omega) 3 0 w rfl (by omega)
  unfold f_L_venues f_X8_venues
  rw [ltt hR.1.1, k_reqO hR ho]
  simp only [cond_true, Option.bind_some]
  rw [eqs, show l_X8_venues_11 w μ ν w (o + 1) (0 : Int32) (0 : Int32) = _ from h3, eK]
  rfl
theorem jq_venuesX {w N T : Nat} {μ : MP} {ν : NC} {a : AS} {x : Int32} (hJ : JC N T μ ν a) (h : x < 0 ∨ a 0 22 ≤ x) : f_L_venues w μ ν x = some ((μ, chg ν 1 6), (-7100 : Int32)) := by
  have hR := JC_RR hJ
  unfold f_L_venues f_X8_venues
  rw [ltt hR.1.1, k_reqOX hR h]
  rfl
theorem jq_left {w N T s o : Nat} {μ : MP} {ν : NC} {a : AS} (hJ : JC N T μ ν a) (hs : s < 2) (ho : o < tn (a 0 22)) : f_L_left w μ ν (nI s) (nI o) = some ((μ, ν), if noB a s o then -1 else lfO a s o) := by
  have hR := JC_RR hJ
  obtain ⟨o1, o2, o3, o4, o5, o6, o7, o8, o9, o10, o11⟩ := ordOf hR ho
  unfold f_L_left f_X8_left
  rw [k_side hs]
  simp only [Option.bind_some]
  rw [eqs, ltt hR.1.1, k_reqO hR ho]
  simp only [cond_true, Option.bind_some]
  rw [eqs, nzs, Nat.add_sub_cancel, ltt o1, k_inBook hR hs ho]
  simp only [cond_true, Option.bind_some]
  by_cases c : noB a s o
  · rw [if_pos c, if_pos (show nI 0 = (0 : Int32) from rfl), if_pos c]
    rfl
  · rw [if_neg c, if_neg n10, if_neg c, k_leftFor hR hs ho]
    rfl
theorem jq_leftX {w N T : Nat} {μ : MP} {ν : NC} {a : AS} {x y : Int32} (hJ : JC N T μ ν a) (h : (x ≠ nI 0 ∧ x ≠ nI 1) ∨ ((∃ s : Nat, s < 2 ∧ x = nI s) ∧ (y < 0 ∨ a 0 22 ≤ y))) : f_L_left w μ ν x y = some ((μ, chg ν 1 6), (-7100 : Int32)) := by
  have hR := JC_RR hJ
  unfold f_L_left f_X8_left
  rcases h with h | ⟨⟨s, hs, rfl⟩, h⟩
  · rw [k_sideX h]
    rfl
  · rw [k_side hs]
    simp only [Option.bind_some]
    rw [eqs, ltt hR.1.1, k_reqOX hR h]
    rfl
theorem jq_done {w N T s o : Nat} {μ : MP} {ν : NC} {a : AS} (hJ : JC N T μ ν a) (hs : s < 2) (ho : o < tn (a 0 22)) : f_L_done w μ ν (nI s) (nI o) = some ((μ, ν), if noB a s o then -1 else a 27 (40 * s + o)) := by
  have hR := JC_RR hJ
  obtain ⟨o1, o2, o3, o4, o5, o6, o7, o8, o9, o10, o11⟩ := ordOf hR ho
  unfold f_L_done f_X8_done
  rw [k_side hs]
  simp only [Option.bind_some]
  rw [eqs, ltt hR.1.1, k_reqO hR ho]
  simp only [cond_true, Option.bind_some]
  rw [eqs, nzs, Nat.add_sub_cancel, ltt o1, k_inBook hR hs ho]
  simp only [cond_true, Option.bind_some]
  by_cases c : noB a s o
  · rw [if_pos c, if_pos (show nI 0 = (0 : Int32) from rfl), if_pos c]
    rfl
  · rw [if_neg c, if_neg n10, if_neg c, k_bkO hR hs ho]
    simp only [Option.bind_some]
    rw [nzs, Nat.add_sub_cancel, ltt (show 2 * o + s < ν.2 21 by omega), (o11 s hs).2.2.1]
    rfl
theorem jq_doneByLog {w N T s o : Nat} {μ : MP} {ν : NC} {a : AS} (hw : 1000 < w) (hN : N ≤ 512) (hJ : JC N T μ ν a) (hs : s < 2) (ho : o < tn (a 0 22)) : f_L_doneByLog w μ ν (nI s) (nI o) = some ((μ, ν), if noB a s o then -1 else a 27 (40 * s + o)) := by
  have hR := JC_RR hJ
  obtain ⟨K0, O, E, R, -, mi⟩ := JC_MI hN hJ
  have hl := MI_logOk mi
  obtain ⟨o1, o2, o3, o4, o5, o6, o7, o8, o9, o10, o11⟩ := ordOf hR ho
  unfold f_L_doneByLog f_X8_doneByLog
  rw [k_side hs]
  simp only [Option.bind_some]
  rw [eqs, ltt hR.1.1, k_reqO hR ho]
  simp only [cond_true, Option.bind_some]
  rw [eqs, nzs, Nat.add_sub_cancel, ltt o1, k_inBook hR hs ho]
  simp only [cond_true, Option.bind_some]
  by_cases c : noB a s o
  · rw [if_pos c, if_pos (show nI 0 = (0 : Int32) from rfl), if_pos c]
    rfl
  · rw [if_neg c, if_neg n10, if_neg c]
    obtain ⟨K, e35, hK, eK, -⟩ := exeK hR
    have hlg := k_logL (w := w) hR hs ho eK K 0 w (by omega) (by omega)
    rw [show l_X8_doneByLog_26 w μ ν w (nI s) (o + 1) (0 : Int32) (0 : Int32) = some (0, lsum a s o K) from hlg, show lsum a s o K = a 27 (40 * s + o) by rw [← eK]; exact hl s o hs ho]
    rfl
theorem jq_out {w N T s o : Nat} {μ : MP} {ν : NC} {a : AS} (hJ : JC N T μ ν a) (hs : s < 2) (ho : o < tn (a 0 22)) : f_L_out w μ ν (nI s) (nI o) = some ((μ, ν), if noB a s o then -1 else a 28 (40 * s + o)) := by
  have hR := JC_RR hJ
  obtain ⟨o1, o2, o3, o4, o5, o6, o7, o8, o9, o10, o11⟩ := ordOf hR ho
  unfold f_L_out f_X8_out
  rw [k_side hs]
  simp only [Option.bind_some]
  rw [eqs, ltt hR.1.1, k_reqO hR ho]
  simp only [cond_true, Option.bind_some]
  rw [eqs, nzs, Nat.add_sub_cancel, ltt o1, k_inBook hR hs ho]
  simp only [cond_true, Option.bind_some]
  by_cases c : noB a s o
  · rw [if_pos c, if_pos (show nI 0 = (0 : Int32) from rfl), if_pos c]
    rfl
  · rw [if_neg c, if_neg n10, if_neg c, k_bkO hR hs ho]
    simp only [Option.bind_some]
    rw [nzs, Nat.add_sub_cancel, ltt (show 2 * o + s < ν.2 21 by omega), (o11 s hs).2.2.2]
    rfl
theorem jq_quoted {w N T v d : Nat} {μ : MP} {ν : NC} {a : AS} (hJ : JC N T μ ν a) (hv : v < 3) (hd : d < 2) : f_L_quoted w μ ν (nI v) (nI d) = some ((μ, ν), a 34 (2 * v + d)) := by
  have hR := JC_RR hJ
  obtain ⟨g1, g2⟩ := hR.2.2.2.2.2.2.2.2.2.1 d hd
  obtain ⟨p1, p2, p3, p4⟩ := g2 v hv
  have z25 := hR.1.2.2.2.2.2.2.2.2.2.2.2.1
  unfold f_L_quoted f_X8_quoted
  rw [ltt hR.1.1, k_reqQ hR hv hd]
  simp only [cond_true, Option.bind_some]
  rw [eqs, nzs, Nat.add_sub_cancel, ltt (show 3 * d + v < ν.2 25 by omega), p4]
  rfl
theorem jq_quotedX {w N T d : Nat} {μ : MP} {ν : NC} {a : AS} {x : Int32} (hJ : JC N T μ ν a) (h : x < 0 ∨ nI 3 ≤ x) (hd : d < 2) : f_L_quoted w μ ν x (nI d) = some ((μ, chg ν 1 6), (-7100 : Int32)) := by
  have hR := JC_RR hJ
  unfold f_L_quoted f_X8_quoted
  rw [ltt hR.1.1, k_reqQX hR h hd]
  rfl
theorem jq_total {w N T s : Nat} {μ : MP} {ν : NC} {a : AS} {day what : Int32} {d : Nat} (hw : 1000 < w) (hJ : JC N T μ ν a) (hs : s < 2) (h1 : ¬ day < 0) (h2 : ¬ a 0 44 < day) (h3 : what = 0 ∨ what = 1) : f_L_total w μ ν (nI s) day (nI d) what = some ((μ, ν), tS a s day (nI d) what (tn (a 0 35))) := by
  have hR := JC_RR hJ
  obtain ⟨K, e35, hK, eK, -⟩ := exeK hR
  have e10 := hR.2.2.1.2.2.1
  have c3 : ¬ rgX what 0 1 := by
    rcases h3 with rfl | rfl
    · exact fun z => z.elim (fun z => absurd z (by decide)) (fun z => absurd z (by decide))
    · exact fun z => z.elim (fun z => absurd z (by decide)) (fun z => absurd z (by decide))
  have hk := k_totL (w := w) (day := day) (dir := nI d) (what := what) hR hs eK K 0 w (by omega) (by omega)
  unfold f_L_total f_X8_total
  rw [ltt hR.1.1, e10, k_side hs]
  simp only [Option.bind_some]
  rw [eqs]
  simp only [cond_true]
  rw [if_neg h1, if_pos (Int32.not_lt.mp h2), k_range, if_neg c3]
  simp only [Option.bind_some]
  rw [eqs]
  simp only [cond_true]
  rw [show l_X8_total_40 w μ ν w (nI s) day (nI d) what (0 : Int32) (0 : Int32) = _ from hk, eK]
  rfl
theorem jq_totalX {w N T s : Nat} {μ : MP} {ν : NC} {a : AS} {day what dir : Int32} (hJ : JC N T μ ν a) (hs : s < 2) (h : day < 0 ∨ a 0 44 < day) : f_L_total w μ ν (nI s) day dir what = some ((μ, chg ν 1 6), (-7100 : Int32)) := by
  have hR := JC_RR hJ
  have e10 := hR.2.2.1.2.2.1
  unfold f_L_total f_X8_total
  rw [ltt hR.1.1, e10, k_side hs]
  simp only [Option.bind_some]
  rw [eqs]
  simp only [cond_true]
  by_cases c1 : day < 0
  · rw [if_pos c1]
    rfl
  · rw [if_neg c1, if_neg (Int32.not_le.mpr (h.resolve_left c1))]
    rfl
theorem jq_totalY {w N T s : Nat} {μ : MP} {ν : NC} {a : AS} {day what dir : Int32} (hJ : JC N T μ ν a) (hs : s < 2) (h1 : ¬ day < 0) (h2 : ¬ a 0 44 < day) (h : what < 0 ∨ 1 < what) : f_L_total w μ ν (nI s) day dir what = some ((μ, chg ν 1 6), (-7200 : Int32)) := by
  have hR := JC_RR hJ
  have e10 := hR.2.2.1.2.2.1
  unfold f_L_total f_X8_total
  rw [ltt hR.1.1, e10, k_side hs]
  simp only [Option.bind_some]
  rw [eqs]
  simp only [cond_true]
  rw [if_neg h1, if_pos (Int32.not_lt.mp h2), k_range, if_pos (show rgX what 0 1 from h)]
  rfl
