/-! The queries of books and totals: class and reference. -/
/-- whether a side's book has no such order -/
abbrev noB (a : AS) (s o : Nat) : Prop := s = 1 ∧ a 24 (40 + o) = nI 0
theorem r_asksB {w s o : Nat} {μ : MP} {ν : NC} {a : AS} (hR : RR μ ν a) (hs : s < 2) (ho : o < tn (a 0 22)) : f_X9_asksBook w a (nI s) (nI o) = some (up2 a 0 0 (nI 0), nI 1) := by
  obtain ⟨k, y2, y3, y4⟩ := ordK hR
  unfold f_X9_asksBook b_X9_asksBook_21
  rw [r_isSide hs]
  simp only [Option.bind_some, yl]
  rw [if_neg n10, r_isOrd y2 y3 (by omega)]
  simp only [Option.bind_some]
  rw [if_neg n10, up2_s]
  rfl
theorem r_asksBX {w : Nat} {μ : MP} {ν : NC} {a : AS} {x y : Int32} (hR : RR μ ν a) (h : (x ≠ nI 0 ∧ x ≠ nI 1) ∨ ((∃ s : Nat, s < 2 ∧ x = nI s) ∧ (y < 0 ∨ a 0 22 ≤ y))) : f_X9_asksBook w a x y = some (up2 a 0 0 (nI 1), nI 0) := by
  have h20 : b_X9_asksBook_20 w a = some (up2 a 0 0 (nI 1), nI 0) := by
    unfold b_X9_asksBook_20 b_X9_asksBook_21
    simp only [yl]
    rw [up2_s, if_neg (show ¬ (1 : Int32) = 0 by decide)]
    rfl
  unfold f_X9_asksBook
  rcases h with h | ⟨⟨s, hs, rfl⟩, h⟩
  · rw [r_isSideX h]
    simp only [Option.bind_some]
    rw [if_pos (show nI 0 = (0 : Int32) from rfl), h20]
  · obtain ⟨k, y2, y3, y4⟩ := ordK hR
    rw [r_isSide hs]
    simp only [Option.bind_some]
    rw [if_neg n10, r_isOrdX y2 y3 (by rw [← y2]; exact h)]
    simp only [Option.bind_some]
    rw [if_pos (show nI 0 = (0 : Int32) from rfl), h20]
theorem r_isNone {w s o : Nat} {a : AS} (hs : s < 2) (ho : o < 40) : f_X9_isNone w a (nI s) (nI o) = some (if noB a s o then nI 1 else nI 0) := by
  unfold f_X9_isNone
  rcases (show s = 0 ∨ s = 1 by omega) with rfl | rfl
  · rw [if_neg (show ¬ nI 0 = (1 : Int32) by decide), if_neg (show ¬ noB a 0 o from fun h => absurd h.1 (by decide))]
    rfl
  · rw [if_pos (show nI 1 = (1 : Int32) from rfl), q40, nI_add, ixn (show 40 + o < 80 by omega) (by decide), nI_clamp (by omega)]
    simp only [cond_true]
    by_cases c : a 24 (40 + o) = nI 0
    · rw [if_pos (show a 24 (40 + o) = (0 : Int32) from c), if_pos (show noB a 1 o from ⟨rfl, c⟩)]; rfl
    · rw [if_neg (show ¬ a 24 (40 + o) = (0 : Int32) from c), if_neg (show ¬ noB a 1 o from fun h => c h.2)]; rfl
theorem k_inBook {w s o : Nat} {μ : MP} {ν : NC} {a : AS} (hR : RR μ ν a) (hs : s < 2) (ho : o < tn (a 0 22)) : f_X4_isInBook w μ ν o (nI s) = some (if noB a s o then nI 0 else nI 1) := by
  obtain ⟨o1, o2, o3, o4, o5, o6, o7, o8, o9, o10, o11⟩ := ordOf hR ho
  unfold f_X4_isInBook
  rcases (show s = 0 ∨ s = 1 by omega) with rfl | rfl
  · rw [if_pos (show nI 0 = (0 : Int32) from rfl), if_neg (show ¬ noB a 0 o from fun h => absurd h.1 (by decide))]
    rfl
  · rw [if_neg n10, ltt o1, o9]
    simp only [cond_true]
    by_cases c : a 24 (40 + o) = nI 0
    · rw [if_pos (show a 24 (40 + o) = (0 : Int32) from c), if_pos (show noB a 1 o from ⟨rfl, c⟩)]; rfl
    · rw [if_neg (show ¬ a 24 (40 + o) = (0 : Int32) from c), if_neg (show ¬ noB a 1 o from fun h => c h.2)]; rfl
theorem k_bkO {w s o : Nat} {μ : MP} {ν : NC} {a : AS} (hR : RR μ ν a) (hs : s < 2) (ho : o < tn (a 0 22)) : f_X4_book w μ ν o (nI s) = some (2 * o + s + 1) := by
  have o1 := (ordOf hR ho).1
  unfold f_X4_book
  rw [ltt o1]
  rcases (show s = 0 ∨ s = 1 by omega) with rfl | rfl <;> rfl
/-- what is left of an order, by a side's book -/
def lfO (a : AS) (s o : Nat) : Int32 := if s = 0 ∧ a 24 o = nI 0 then nI 0 else lft a (40 * s + o)
theorem k_leftFor {w s o : Nat} {μ : MP} {ν : NC} {a : AS} (hR : RR μ ν a) (hs : s < 2) (ho : o < tn (a 0 22)) : f_X4_leftFor w μ ν o (nI s) = some (lfO a s o) := by
  obtain ⟨o1, o2, o3, o4, o5, o6, o7, o8, o9, o10, o11⟩ := ordOf hR ho
  have hb : b_X4_leftFor_13 w μ ν o (nI s) = some (lft a (40 * s + o)) := by
    unfold b_X4_leftFor_13
    rw [ltt o1, k_bkO hR hs ho]
    simp only [cond_true, Option.bind_some]
    rw [nzs, Nat.add_sub_cancel, ltt (show 2 * o + s < ν.2 21 by omega), k_rest hR ho hs]
    rfl
  unfold f_X4_leftFor lfO
  rw [hb, ltt o1, o7]
  rcases (show s = 0 ∨ s = 1 by omega) with rfl | rfl
  · rw [if_pos (show nI 0 = (0 : Int32) from rfl)]
    simp only [cond_true]
    by_cases c : a 24 o = nI 0
    · rw [if_pos (show a 24 o = (0 : Int32) from c), if_pos ⟨trivial, c⟩]; rfl
    · rw [if_neg (show ¬ a 24 o = (0 : Int32) from c), if_neg (fun h => c h.2)]
  · rw [if_neg n10, if_neg (fun h => absurd h.1 (by decide))]
theorem r_leftOf {w s o : Nat} {a : AS} (hs : s < 2) (ho : o < 40) : f_X9_leftOf w a (nI s) (nI o) = some (if noB a s o then -1 else lfO a s o) := by
  have hb : b_X9_leftOf_29 w a (nI s) (nI o) = some (lft a (40 * s + o)) := by
    unfold b_X9_leftOf_29
    rw [q40, pk_mul, nI_add, r_left (show 40 * s + o < 80 by omega)]
    rfl
  unfold f_X9_leftOf
  rw [r_isNone hs ho]
  simp only [Option.bind_some]
  by_cases c : noB a s o
  · rw [if_pos c, if_neg n10, if_pos c]
  · rw [if_neg c, if_pos (show nI 0 = (0 : Int32) from rfl), if_neg c, hb]
    unfold lfO
    rcases (show s = 0 ∨ s = 1 by omega) with rfl | rfl
    · rw [if_pos (show nI 0 = (0 : Int32) from rfl)]
      unfold f_X9_isPending
      rw [ixn (show o < 80 by omega) (by decide), nI_clamp (by omega)]
      simp only [cond_true]
      by_cases c1 : a 24 o = nI 0
      · rw [if_pos (show a 24 o = (0 : Int32) from c1), if_pos ⟨trivial, c1⟩]
        simp only [Option.bind_some]
        rw [if_neg (show ¬ (1 : Int32) = 0 by decide)]
        rfl
      · rw [if_neg (show ¬ a 24 o = (0 : Int32) from c1), if_neg (fun h => c1 h.2)]
        simp only [Option.bind_some]
        rw [if_pos trivial]
    · rw [if_neg n10, if_neg (fun h => absurd h.1 (by decide))]
theorem r_doneOf {w s o : Nat} {a : AS} (hs : s < 2) (ho : o < 40) : f_X9_doneOf w a (nI s) (nI o) = some (if noB a s o then -1 else a 27 (40 * s + o)) := by
  unfold f_X9_doneOf
  rw [r_isNone hs ho]
  simp only [Option.bind_some]
  by_cases c : noB a s o
  · rw [if_pos c, if_neg n10, if_pos c]
  · rw [if_neg c, if_pos (show nI 0 = (0 : Int32) from rfl), if_neg c, q40, pk_mul, nI_add, ixn (show 40 * s + o < 80 by omega) (by decide), nI_clamp (by omega)]
    rfl
/-- sums of an order's executions, as a side counts them -/
def cntO (a : AS) (s o e : Nat) : Prop := a 36 e = nI o ∧ a 42 (100 * s + e) ≠ nI 0 ∧ a 43 (100 * s + e) = nI 0
noncomputable def lsum (a : AS) (s o : Nat) : Nat → Int32
  | 0 => nI 0
  | e + 1 => @ite _ (cntO a s o e) (Classical.propDecidable _) (lsum a s o e + a 39 e) (lsum a s o e)
def logOk (a : AS) : Prop := ∀ s o : Nat, s < 2 → o < tn (a 0 22) → lsum a s o (tn (a 0 35)) = a 27 (40 * s + o)
/-- an execution's rows, all -/
theorem exeAll {μ : MP} {ν : NC} {a : AS} {e : Nat} (hR : RR μ ν a) (he : e < tn (a 0 35)) : ∃ p : Nat, e < ν.2 23 ∧ e < 100 ∧ μ.2 23 e 0 = p ∧ a 36 e = nI p ∧ p < tn (a 0 22) ∧ p < 40 ∧ p < ν.2 20 ∧ μ.1 23 e 1 = a 37 e ∧ μ.1 23 e 2 = a 39 e ∧ μ.1 23 e 3 = a 38 e ∧ μ.1 23 e 4 = a 41 (100 + e) ∧ μ.1 23 e 5 = a 43 (100 + e) ∧ μ.1 23 e 6 = a 42 e ∧ μ.1 23 e 7 = a 41 e ∧ μ.1 23 e 8 = a 43 e ∧ a 42 (100 + e) = nI 1 ∧ ∃ v : Nat, a 37 e = nI v ∧ v < 3 := by
  obtain ⟨y1, n, y2, y3, y4, y5, y6, y7, y8⟩ := hR.2.2.2.2.2.2.2.2.1
  rw [y2, tnI (by omega)] at he
  obtain ⟨t1, t2, t3, t4, t5, t6, t7, t8, t9, t10, t11, t12, t13⟩ := y8 e he
  obtain ⟨o1, o2, o3, -⟩ := ordOf hR t3
  exact ⟨_, by omega, by omega, rfl, t2, t3, o3, o1, t4, t5, t6, t7, t8, t9, t10, t11, t12, t13⟩
theorem exeK {μ : MP} {ν : NC} {a : AS} (hR : RR μ ν a) : ∃ K : Nat, a 0 35 = nI K ∧ K ≤ 100 ∧ tn (a 0 35) = K ∧ μ.1 4 5 2 = nI K ∧ 5 < ν.2 4 ∧ 0 < ν.2 0 ∧ ∀ j, j < K → ls_get μ ν 5 (nI j) = some j := by
  obtain ⟨y1, n, y2, y3, y4, y5, y6, y7, y8⟩ := hR.2.2.2.2.2.2.2.2.1
  have z4 := hR.1.2.2.2.2.1
  refine ⟨n, y2, y3, by rw [y2, tnI (by omega)], y1.trans y2, by omega, hR.1.1, fun j hj => ?_⟩
  exact k_get hR.1 (by decide) (y1.trans y2) (by omega) y5 y6 hj (y8 j hj).1 (show j < ν.2 (eK 5 5) by show j < ν.2 23; omega)
theorem k_counts {w s e : Nat} {μ : MP} {ν : NC} {a : AS} (hR : RR μ ν a) (hs : s < 2) (he : e < tn (a 0 35)) : f_X2_countsFor w μ ν e (nI s) = some (if a 42 (100 * s + e) ≠ nI 0 ∧ a 43 (100 * s + e) = nI 0 then nI 1 else nI 0) := by
  obtain ⟨p, h1, h2, h3, h4, h5, h6, h7, h8, h9, h10, h11, h12, h13, h14, h15, h16, -⟩ := exeAll hR he
  unfold f_X2_countsFor
  rcases (show s = 0 ∨ s = 1 by omega) with rfl | rfl
  · rw [if_neg (show ¬ nI 0 = (1 : Int32) by decide), ltt h1, h13, h15, show 100 * 0 + e = e by omega]
    simp only [cond_true]
    by_cases c : a 42 e = nI 0
    · rw [if_pos (show a 42 e = (0 : Int32) from c), if_neg (fun h => h.1 c)]; rfl
    · rw [if_neg (show ¬ a 42 e = (0 : Int32) from c)]
      by_cases c1 : a 43 e = nI 0
      · rw [if_pos (show a 43 e = (0 : Int32) from c1), if_pos ⟨c, c1⟩]; rfl
      · rw [if_neg (show ¬ a 43 e = (0 : Int32) from c1), if_neg (fun h => c1 h.2)]; rfl
  · rw [if_pos (show nI 1 = (1 : Int32) from rfl), ltt h1, h12, show 100 * 1 + e = 100 + e by omega, h16]
    simp only [cond_true]
    by_cases c1 : a 43 (100 + e) = nI 0
    · rw [if_pos (show a 43 (100 + e) = (0 : Int32) from c1), if_pos ⟨by decide, c1⟩]; rfl
    · rw [if_neg (show ¬ a 43 (100 + e) = (0 : Int32) from c1), if_neg (fun h => c1 h.2)]; rfl
theorem k_logL {w s o K : Nat} {μ : MP} {ν : NC} {a : AS} (hR : RR μ ν a) (hs : s < 2) (ho : o < tn (a 0 22)) (hK : tn (a 0 35) = K) : ∀ (d j m : Nat), j + d = K → d < m → l_X8_doneByLog_26 w μ ν m (nI s) (o + 1) (lsum a s o j) (nI j) = some (0, lsum a s o K) := by
  obtain ⟨K', e35, hK', eK', m452, z4, z0, hg⟩ := exeK hR
  obtain rfl : K' = K := by omega
  have o1 := (ordOf hR ho).1
  intro d
  induction d with
  | zero =>
    intro j m h1 h2
    obtain ⟨m, rfl⟩ : ∃ m', m = m' + 1 := ⟨m - 1, by omega⟩
    obtain rfl : j = K' := by omega
    unfold l_X8_doneByLog_26 b_X8_doneByLog_26
    rw [ltt z0, ltt z4, m452, if_pos (Int32.le_refl _)]
    rfl
  | succ d ih =>
    intro j m h1 h2
    obtain ⟨m, rfl⟩ : ∃ m', m = m' + 1 := ⟨m - 1, by omega⟩
    have c : ¬ nI K' ≤ nI j := fun h => by have := (nI_leI (by omega) (by omega)).mp h; omega
    obtain ⟨p, g1, g2, g3, g4, g5, g6, g7, g8, g9, -⟩ := exeAll hR (show j < tn (a 0 35) by omega)
    have hi := ih (j + 1) m (by omega) (by omega)
    have h80 : ∀ v : Int32, v = lsum a s o (j + 1) → b_X8_doneByLog_80 (l_X8_doneByLog_26 w μ ν m) w μ ν (nI s) (o + 1) v (nI j) = some (0, lsum a s o K') := fun v hv => by
      unfold b_X8_doneByLog_80
      simp only [yl]
      rw [hv, q1, nI_add]
      exact hi
    have el : lsum a s o (j + 1) = @ite _ (cntO a s o j) (Classical.propDecidable _) (lsum a s o j + a 39 j) (lsum a s o j) := rfl
    unfold l_X8_doneByLog_26 b_X8_doneByLog_26
    rw [ltt z0, ltt z4, m452, if_neg c, hg j (by omega)]
    simp only [cond_true, Option.bind_some]
    rw [show eqB (eK 5 5) 23 = true from rfl, ltt g1, nzs, Nat.add_sub_cancel, ltt o1, g3, ltt g7, g9]
    simp only [cond_true]
    by_cases cp : p = o
    · rw [if_pos cp, k_counts hR hs (by omega)]
      simp only [Option.bind_some]
      by_cases cc : a 42 (100 * s + j) ≠ nI 0 ∧ a 43 (100 * s + j) = nI 0
      · rw [if_pos cc, if_neg n10]
        refine h80 _ ?_
        rw [el, if_pos (show cntO a s o j from ⟨by rw [g4, cp], cc⟩)]
      · rw [if_neg cc, if_pos (show nI 0 = (0 : Int32) from rfl)]
        refine h80 _ ?_
        rw [el, if_neg (show ¬ cntO a s o j from fun h => cc h.2)]
    · rw [if_neg cp]
      refine h80 _ ?_
      rw [el, if_neg (show ¬ cntO a s o j from fun h => cp ((nI_eq (by omega) (by have := (ordOf hR ho).2.2.1; omega)).mp (g4.symm.trans h.1)))]
/-- a book's query: side, order -/
theorem bookD {μ : MP} {ν : NC} {a : AS} (hR : RR μ ν a) (x y : Int32) : (∃ s o : Nat, s < 2 ∧ o < tn (a 0 22) ∧ x = nI s ∧ y = nI o) ∨ ((x ≠ nI 0 ∧ x ≠ nI 1) ∨ ((∃ s : Nat, s < 2 ∧ x = nI s) ∧ (y < 0 ∨ a 0 22 ≤ y))) := by
  rcases sideD x with ⟨s, hs, rfl⟩ | h
  · rcases ordD hR y with ⟨o, ho, rfl⟩ | h
    · exact Or.inl ⟨s, o, hs, ho, rfl, rfl⟩
    · exact Or.inr (Or.inr ⟨⟨s, hs, rfl⟩, h⟩)
  · exact Or.inr (Or.inl h)
theorem o_left {w : Nat} {μ : MP} {ν : NC} {a : AS} {x y : Int32} (hR : RR μ ν a) : oq ν a (s_left w μ ν a x y) := by
  unfold s_left f_X8_left f_X9_left
  rcases bookD hR x y with ⟨s, o, hs, ho, rfl, rfl⟩ | h
  · obtain ⟨o1, o2, o3, o4, o5, o6, o7, o8, o9, o10, o11⟩ := ordOf hR ho
    have hb : noB (up2 a 0 0 (nI 0)) s o ↔ noB a s o := Iff.rfl
    rw [k_side hs, r_asksB hR hs ho]
    simp only [Option.bind_some]
    rw [eqs, ltt hR.1.1, k_reqO hR ho]
    simp only [cond_true, Option.bind_some]
    rw [eqs, nzs, Nat.add_sub_cancel, ltt o1, k_inBook hR hs ho, if_neg n10, r_leftOf hs o3]
    simp only [cond_true, Option.bind_some]
    by_cases c : noB a s o
    · rw [if_pos c, if_pos (show nI 0 = (0 : Int32) from rfl), if_pos (hb.mpr c)]
      simp only [Option.bind_some]
      rw [r_thrown, up2_s]
      exact oq_ok hR
    · rw [if_neg c, if_neg n10, if_neg (fun h => c (hb.mp h))]
      rw [k_leftFor hR hs ho, show lfO (up2 a 0 0 (nI 0)) s o = lfO a s o from rfl]
      simp only [Option.bind_some]
      rw [r_thrown, up2_s]
      exact oq_ok hR
  · rw [r_asksBX hR h]
    simp only [Option.bind_some]
    rw [if_pos (show nI 0 = (0 : Int32) from rfl)]
    simp only [Option.bind_some]
    rw [r_thrown, up2_s]
    rcases h with h | ⟨⟨s, hs, rfl⟩, h⟩
    · rw [k_sideX h]
      simp only [Option.bind_some]
      simp only [eq10, cond_false, Option.bind_some]
      refine oq_x hR ?_ ?_ <;> decide
    · rw [k_side hs]
      simp only [Option.bind_some]
      rw [eqs, ltt hR.1.1, k_reqOX hR h]
      simp only [cond_true, Option.bind_some]
      simp only [eq10, cond_false, Option.bind_some]
      refine oq_x hR ?_ ?_ <;> decide
theorem o_done {w : Nat} {μ : MP} {ν : NC} {a : AS} {x y : Int32} (hR : RR μ ν a) : oq ν a (s_done w μ ν a x y) := by
  unfold s_done f_X8_done f_X9_done
  rcases bookD hR x y with ⟨s, o, hs, ho, rfl, rfl⟩ | h
  · obtain ⟨o1, o2, o3, o4, o5, o6, o7, o8, o9, o10, o11⟩ := ordOf hR ho
    have hb : noB (up2 a 0 0 (nI 0)) s o ↔ noB a s o := Iff.rfl
    rw [k_side hs, r_asksB hR hs ho]
    simp only [Option.bind_some]
    rw [eqs, ltt hR.1.1, k_reqO hR ho]
    simp only [cond_true, Option.bind_some]
    rw [eqs, nzs, Nat.add_sub_cancel, ltt o1, k_inBook hR hs ho, if_neg n10, r_doneOf hs o3]
    simp only [cond_true, Option.bind_some]
    by_cases c : noB a s o
    · rw [if_pos c, if_pos (show nI 0 = (0 : Int32) from rfl), if_pos (hb.mpr c)]
      simp only [Option.bind_some]
      rw [r_thrown, up2_s]
      exact oq_ok hR
    · rw [if_neg c, if_neg n10, if_neg (fun h => c (hb.mp h))]
      rw [k_bkO hR hs ho]
      simp only [Option.bind_some]
      rw [nzs, Nat.add_sub_cancel, ltt (show 2 * o + s < ν.2 21 by omega), (o11 s hs).2.2.1, show up2 a 0 0 (nI 0) 27 (40 * s + o) = a 27 (40 * s + o) from rfl]
      simp only [cond_true]
      simp only [Option.bind_some]
      rw [r_thrown, up2_s]
      exact oq_ok hR
  · rw [r_asksBX hR h]
    simp only [Option.bind_some]
    rw [if_pos (show nI 0 = (0 : Int32) from rfl)]
    simp only [Option.bind_some]
    rw [r_thrown, up2_s]
    rcases h with h | ⟨⟨s, hs, rfl⟩, h⟩
    · rw [k_sideX h]
      simp only [Option.bind_some]
      simp only [eq10, cond_false, Option.bind_some]
      refine oq_x hR ?_ ?_ <;> decide
    · rw [k_side hs]
      simp only [Option.bind_some]
      rw [eqs, ltt hR.1.1, k_reqOX hR h]
      simp only [cond_true, Option.bind_some]
      simp only [eq10, cond_false, Option.bind_some]
      refine oq_x hR ?_ ?_ <;> decide
theorem o_doneByLog {w : Nat} {μ : MP} {ν : NC} {a : AS} {x y : Int32} (hR : RR μ ν a) (hl : logOk a) (hw : 101 < w) : oq ν a (s_doneByLog w μ ν a x y) := by
  unfold s_doneByLog f_X8_doneByLog f_X9_doneByLog
  rcases bookD hR x y with ⟨s, o, hs, ho, rfl, rfl⟩ | h
  · obtain ⟨o1, o2, o3, o4, o5, o6, o7, o8, o9, o10, o11⟩ := ordOf hR ho
    have hb : noB (up2 a 0 0 (nI 0)) s o ↔ noB a s o := Iff.rfl
    rw [k_side hs, r_asksB hR hs ho]
    simp only [Option.bind_some]
    rw [eqs, ltt hR.1.1, k_reqO hR ho]
    simp only [cond_true, Option.bind_some]
    rw [eqs, nzs, Nat.add_sub_cancel, ltt o1, k_inBook hR hs ho, if_neg n10, r_doneOf hs o3]
    simp only [cond_true, Option.bind_some]
    by_cases c : noB a s o
    · rw [if_pos c, if_pos (show nI 0 = (0 : Int32) from rfl), if_pos (hb.mpr c)]
      simp only [Option.bind_some]
      rw [r_thrown, up2_s]
      exact oq_ok hR
    · rw [if_neg c, if_neg n10, if_neg (fun h => c (hb.mp h))]
      obtain ⟨K, e35, hK, eK, -⟩ := exeK hR
      have hlg := k_logL (w := w) hR hs ho eK K 0 w (by omega) (by omega)
      rw [show l_X8_doneByLog_26 w μ ν w (nI s) (o + 1) (0 : Int32) (0 : Int32) = some (0, lsum a s o K) from hlg, show lsum a s o K = a 27 (40 * s + o) by rw [← eK]; exact hl s o hs ho, show up2 a 0 0 (nI 0) 27 (40 * s + o) = a 27 (40 * s + o) from rfl]
      simp only [Option.bind_some]
      rw [r_thrown, up2_s]
      exact oq_ok hR
  · rw [r_asksBX hR h]
    simp only [Option.bind_some]
    rw [if_pos (show nI 0 = (0 : Int32) from rfl)]
    simp only [Option.bind_some]
    rw [r_thrown, up2_s]
    rcases h with h | ⟨⟨s, hs, rfl⟩, h⟩
    · rw [k_sideX h]
      simp only [Option.bind_some]
      simp only [eq10, cond_false, Option.bind_some]
      refine oq_x hR ?_ ?_ <;> decide
    · rw [k_side hs]
      simp only [Option.bind_some]
      rw [eqs, ltt hR.1.1, k_reqOX hR h]
      simp only [cond_true, Option.bind_some]
      simp only [eq10, cond_false, Option.bind_some]
      refine oq_x hR ?_ ?_ <;> decide
theorem o_out {w : Nat} {μ : MP} {ν : NC} {a : AS} {x y : Int32} (hR : RR μ ν a) : oq ν a (s_out w μ ν a x y) := by
  unfold s_out f_X8_out f_X9_out
  rcases bookD hR x y with ⟨s, o, hs, ho, rfl, rfl⟩ | h
  · obtain ⟨o1, o2, o3, o4, o5, o6, o7, o8, o9, o10, o11⟩ := ordOf hR ho
    have hb : noB (up2 a 0 0 (nI 0)) s o ↔ noB a s o := Iff.rfl
    rw [k_side hs, r_asksB hR hs ho]
    simp only [Option.bind_some]
    rw [eqs, ltt hR.1.1, k_reqO hR ho]
    simp only [cond_true, Option.bind_some]
    rw [eqs, nzs, Nat.add_sub_cancel, ltt o1, k_inBook hR hs ho, if_neg n10, r_isNone hs o3]
    simp only [cond_true, Option.bind_some]
    by_cases c : noB a s o
    · rw [if_pos c, if_pos (show nI 0 = (0 : Int32) from rfl), if_pos (hb.mpr c), if_neg n10]
      simp only [Option.bind_some]
      rw [r_thrown, up2_s]
      exact oq_ok hR
    · rw [if_neg c, if_neg n10, if_neg (fun h => c (hb.mp h)), if_pos (show nI 0 = (0 : Int32) from rfl)]
      rw [k_bkO hR hs ho]
      simp only [Option.bind_some]
      rw [nzs, Nat.add_sub_cancel, ltt (show 2 * o + s < ν.2 21 by omega), (o11 s hs).2.2.2, q40, pk_mul, nI_add, ixn (show 40 * s + o < 80 by omega) (by decide), nI_clamp (by omega), show up2 a 0 0 (nI 0) 28 (40 * s + o) = a 28 (40 * s + o) from rfl]
      simp only [cond_true]
      simp only [Option.bind_some]
      rw [r_thrown, up2_s]
      exact oq_ok hR
  · rw [r_asksBX hR h]
    simp only [Option.bind_some]
    rw [if_pos (show nI 0 = (0 : Int32) from rfl)]
    simp only [Option.bind_some]
    rw [r_thrown, up2_s]
    rcases h with h | ⟨⟨s, hs, rfl⟩, h⟩
    · rw [k_sideX h]
      simp only [Option.bind_some]
      simp only [eq10, cond_false, Option.bind_some]
      refine oq_x hR ?_ ?_ <;> decide
    · rw [k_side hs]
      simp only [Option.bind_some]
      rw [eqs, ltt hR.1.1, k_reqOX hR h]
      simp only [cond_true, Option.bind_some]
      simp only [eq10, cond_false, Option.bind_some]
      refine oq_x hR ?_ ?_ <;> decide
