/-! The trader's requests: reference and class. -/
/-- an order's state in the trader's book -/
def stO (a : AS) (o : Nat) : Int32 := if a 24 o = nI 0 then nI 0 else if lft a o ≤ nI 0 then nI 2 else nI 1
/-- whether the trader may not ask -/
abbrev noAsk (a : AS) (o : Nat) : Prop := a 3 0 = nI 0 ∨ stO a o = nI 2 ∨ nI 5 ≤ a 30 o
theorem r_state {w o : Nat} {a : AS} (ho : o < 40) : f_X9_stateIn w a (nI o) = some (stO a o) := by
  unfold stO
  by_cases c : a 24 o = nI 0
  · simp (disch := omega) only [f_X9_stateIn, f_X9_isPending, c, if_true, yl, cond_true, cond_false, Option.bind_some, ixn, nI_clamp, nI_add, pk_mul, pk_sub, pk_rem, pk_div, up2_s, up2_n, up1_s, up1_n, mdn, nar0, nar1, q0, q1, q2, q3, q4, q5, q6, q7, q8, q10, q15, q20, q25, q40, q50, q80, q100, q200, q256, q8192, q16384, q65536]
    try rfl
  · by_cases c1 : lft a o ≤ nI 0
    · simp (disch := omega) only [f_X9_stateIn, f_X9_isPending, r_left, c, c1, if_true, if_false, yl, cond_true, cond_false, Option.bind_some, ixn, nI_clamp, nI_add, pk_mul, pk_sub, pk_rem, pk_div, up2_s, up2_n, up1_s, up1_n, mdn, nar0, nar1, q0, q1, q2, q3, q4, q5, q6, q7, q8, q10, q15, q20, q25, q40, q50, q80, q100, q200, q256, q8192, q16384, q65536]
      try rfl
    · simp (disch := omega) only [f_X9_stateIn, f_X9_isPending, r_left, c, c1, if_true, if_false, yl, cond_true, cond_false, Option.bind_some, ixn, nI_clamp, nI_add, pk_mul, pk_sub, pk_rem, pk_div, up2_s, up2_n, up1_s, up1_n, mdn, nar0, nar1, q0, q1, q2, q3, q4, q5, q6, q7, q8, q10, q15, q20, q25, q40, q50, q80, q100, q200, q256, q8192, q16384, q65536]
      try rfl
theorem r_canAsk {w o : Nat} {a : AS} (ho : o < 40) : f_X9_canAsk w a (nI o) = some (if noAsk a o then nI 0 else nI 1) := by
  by_cases c : a 3 0 = nI 0
  · rw [if_pos (Or.inl c)]
    simp (disch := omega) only [f_X9_canAsk, c, if_true, yl, cond_true, cond_false, Option.bind_some, ixn, nI_clamp, nI_add, pk_mul, pk_sub, pk_rem, pk_div, up2_s, up2_n, up1_s, up1_n, mdn, nar0, nar1, q0, q1, q2, q3, q4, q5, q6, q7, q8, q10, q15, q20, q25, q40, q50, q80, q100, q200, q256, q8192, q16384, q65536]
  · by_cases c1 : stO a o = nI 2
    · rw [if_pos (Or.inr (Or.inl c1))]
      simp (disch := omega) only [f_X9_canAsk, r_state, c, c1, if_true, if_false, yl, cond_true, cond_false, Option.bind_some, ixn, nI_clamp, nI_add, pk_mul, pk_sub, pk_rem, pk_div, up2_s, up2_n, up1_s, up1_n, mdn, nar0, nar1, q0, q1, q2, q3, q4, q5, q6, q7, q8, q10, q15, q20, q25, q40, q50, q80, q100, q200, q256, q8192, q16384, q65536]
    · by_cases c2 : nI 5 ≤ a 30 o
      · rw [if_pos (Or.inr (Or.inr c2))]
        simp (disch := omega) only [f_X9_canAsk, r_state, c, c1, c2, if_true, if_false, yl, cond_true, cond_false, Option.bind_some, ixn, nI_clamp, nI_add, pk_mul, pk_sub, pk_rem, pk_div, up2_s, up2_n, up1_s, up1_n, mdn, nar0, nar1, q0, q1, q2, q3, q4, q5, q6, q7, q8, q10, q15, q20, q25, q40, q50, q80, q100, q200, q256, q8192, q16384, q65536]
      · rw [if_neg (fun h => h.elim c (fun h => h.elim c1 c2))]
        simp (disch := omega) only [f_X9_canAsk, r_state, c, c1, c2, if_false, yl, cond_true, cond_false, Option.bind_some, ixn, nI_clamp, nI_add, pk_mul, pk_sub, pk_rem, pk_div, up2_s, up2_n, up1_s, up1_n, mdn, nar0, nar1, q0, q1, q2, q3, q4, q5, q6, q7, q8, q10, q15, q20, q25, q40, q50, q80, q100, q200, q256, q8192, q16384, q65536]
theorem k_state {w o : Nat} {μ : MP} {ν : NC} {a : AS} (hR : RR μ ν a) (ho : o < tn (a 0 22)) : f_X4_state w μ ν o = some (stO a o) := by
  obtain ⟨o1, o2, o3, o4, o5, o6, o7, o8, o9, o10, o11⟩ := ordOf hR ho
  have hr := k_rest (w := w) (z := 0) hR ho (by decide)
  simp only [Nat.mul_zero, Nat.zero_add, Nat.add_zero] at hr
  unfold f_X4_state stO
  rw [ltt o1, o7, ltt (show 2 * o < ν.2 21 by omega), hr]
  simp only [cond_true, Option.bind_some]
  by_cases c : a 24 o = nI 0
  · rw [if_pos (show a 24 o = (0 : Int32) from c), if_pos c]; rfl
  · rw [if_neg (show ¬ a 24 o = (0 : Int32) from c), if_neg c]
    by_cases c1 : lft a o ≤ nI 0
    · rw [if_pos (show lft a o ≤ (0 : Int32) from c1), if_pos c1]; rfl
    · rw [if_neg (show ¬ lft a o ≤ (0 : Int32) from c1), if_neg c1]; rfl
theorem k_askable {w o : Nat} {μ : MP} {ν : NC} {a : AS} (hR : RR μ ν a) (ho : o < tn (a 0 22)) : f_X8_requireAskable w μ ν (o + 1) = some (if noAsk a o then 3 else 0, 0) := by
  obtain ⟨o1, o2, o3, o4, o5, o6, o7, o8, o9, o10, o11⟩ := ordOf hR ho
  obtain ⟨z0, z1, -⟩ := id hR.1
  have m3 : μ.1 1 0 3 = a 3 0 := (hR.2.2.2.1 0 (by decide)).1
  unfold f_X8_requireAskable
  rw [ltt z0, ltt (show 0 < ν.2 1 by omega), m3, nzs, Nat.add_sub_cancel, ltt o1, k_state hR ho, o10]
  simp only [cond_true, Option.bind_some]
  by_cases c : a 3 0 = nI 0
  · rw [if_pos (show a 3 0 = (0 : Int32) from c), if_pos (show noAsk a o from Or.inl c)]; rfl
  · rw [if_neg (show ¬ a 3 0 = (0 : Int32) from c)]
    by_cases c1 : stO a o = nI 2
    · rw [if_pos (show stO a o = (2 : Int32) from c1), if_pos (show noAsk a o from Or.inr (Or.inl c1))]; rfl
    · rw [if_neg (show ¬ stO a o = (2 : Int32) from c1)]
      by_cases c2 : nI 5 ≤ a 30 o
      · rw [if_neg (show ¬ a 30 o < (5 : Int32) from Int32.not_lt.mpr c2), if_pos (show noAsk a o from Or.inr (Or.inr c2))]; rfl
      · rw [if_pos (show a 30 o < (5 : Int32) from Int32.not_le.mp c2), if_neg (fun h => h.elim c (fun h => h.elim c1 c2))]
theorem k_findOX {w : Nat} {μ : MP} {ν : NC} {a : AS} {x : Int32} (hR : RR μ ν a) (h : x < 0 ∨ a 0 22 ≤ x) : f_X8_findOrder w μ ν x = some 0 := by
  have z0 := hR.1.1
  have z4 := hR.1.2.2.2.2.1
  unfold f_X8_findOrder
  by_cases c : x < 0
  · rw [if_pos c]; rfl
  · rw [if_neg c, ltt z0, ltt (show 2 < ν.2 4 by omega), hR.2.2.2.2.2.2.2.1.1, if_pos (h.resolve_left c)]; rfl
theorem k_reqO {w o : Nat} {μ : MP} {ν : NC} {a : AS} (hR : RR μ ν a) (ho : o < tn (a 0 22)) : f_X8_requireOrder w μ ν (nI o) = some (0, o + 1) := by
  unfold f_X8_requireOrder
  rw [ltt hR.1.1, (k_findO (w := w) hR ho).1]
  simp only [cond_true, Option.bind_some]
  rw [if_neg (Nat.succ_ne_zero o), Nat.add_sub_cancel]
theorem k_reqOX {w : Nat} {μ : MP} {ν : NC} {a : AS} {x : Int32} (hR : RR μ ν a) (h : x < 0 ∨ a 0 22 ≤ x) : f_X8_requireOrder w μ ν x = some (1, 0) := by
  unfold f_X8_requireOrder
  rw [ltt hR.1.1, k_findOX hR h]
  rfl
/-- a request: one more under way, and sent -/
def gReq (a : AS) (o : Nat) (kd x y : Int32) : AS := gSends (up2 (up2 a 0 0 (nI 0)) 30 o (a 30 o + nI 1)) 0 kd (nI o) x y (nI 0)
theorem k_cancel {w o : Nat} {μ : MP} {ν : NC} {a : AS} (hR : RR μ ν a) (ho : o < tn (a 0 22)) (hask : ¬ noAsk a o) (hrm : roomS a 0 1) :
    ∃ (μ' : MP) (ν' : NC), f_X8_cancel w μ ν (nI o) = some (0, ((μ', ν'), a 30 o + nI 1)) ∧ RR μ' ν' (gReq a o (nI 6) (nI 0) (nI 0)) ∧ ν'.2 20 = ν.2 20 ∧ bal ν' (gReq a o (nI 6) (nI 0) (nI 0)) = bal ν a ∧ ∀ c y : Int, RC c y ν → RC c y ν' := by
  obtain ⟨o1, o2, o3, o4, o5, o6, o7, o8, o9, o10, o11⟩ := ordOf hR ho
  have hR1 := RR_t30 (v := a 30 o + nI 1) (RR_stop (v := nI 0) hR) ho
  have hrm' : roomS (up2 (up2 a 0 0 (nI 0)) 30 o (a 30 o + nI 1)) 0 1 := roomS_of hrm rfl rfl
  obtain ⟨μ', ν', t1, t2, t3, t4, t5, t6⟩ := k_sendL (w := w) (s := 0) (nb := 2) (fb0 := up1 (up1 (fun _ => (0 : Int32)) 0 (41 : Int32)) 1 (nI o)) (kd := nI 6) (o1 := nI o) (o2 := nI 0) (o3 := nI 0) (o4 := nI 0) (RR_chg 1 2 hR1) (by decide) hrm' (by omega) (Or.inr (Or.inr (Or.inr (Or.inl ⟨rfl, rfl, rfl, rfl⟩))))
  refine ⟨μ', ν', ?_, t2, t4, (bal_send (ν := ν) (by decide) hrm' t3).trans (bal_of rfl rfl), fun c y h => RC_le (t6 _ _ (hC8 _ 2 _ _ h)) (by omega) (by omega)⟩
  have e30 : μ'.1 20 o 7 = a 30 o + nI 1 := by
    have ho' : o < tn (gReq a o (nI 6) (nI 0) (nI 0) 0 22) := by
      unfold gReq
      rw [gSends_k _ _ _ _ _ _ _ _ _ (by decide) (by decide) (by decide) (by decide) (by decide)]
      exact ho
    have := (ordOf t2 ho').2.2.2.2.2.2.2.2.2.1
    rw [this, gSends_k _ _ _ _ _ _ _ _ _ (by decide) (by decide) (by decide) (by decide) (by decide), up2_s]
  have h11 : b_X8_cancel_11 w μ ν (nI o) (o + 1) = some ((μ', ν'), a 30 o + nI 1) := by
    unfold b_X8_cancel_11
    rw [nzs, Nat.add_sub_cancel, ltt o1, o10]
    simp only [cond_true, yl]
    unfold b_X8_cancel_28
    rw [show (chg ν 1 2).2 = ν.2 from rfl, ltt hR.1.1, decide_eq_true (show o + 1 ≤ ν.2 20 by omega), show (6 : Int32) = nI 6 from rfl, show (0 : Int32) = nI 0 from rfl, show (1 : Int32) = nI 1 from rfl]
    simp only [cond_true]
    rw [show (41 : Int32) = nI 41 from rfl] at *
    rw [show (fun _ => nI 0 : Nat → Int32) = (fun _ => 0) from rfl, t1]
    simp only [Option.bind_some]
    unfold b_X8_cancel_40
    rw [nzs, Nat.add_sub_cancel, t4, show (chg ν 1 2).2 = ν.2 from rfl, ltt o1, e30]
    rfl
  unfold f_X8_cancel
  rw [ltt hR.1.1, k_reqO hR ho]
  simp only [cond_true, Option.bind_some]
  rw [eqs, k_askable hR ho, if_neg hask]
  simp only [cond_true, Option.bind_some]
  rw [eqs, h11]
  rfl
theorem k_cancelX {w o : Nat} {μ : MP} {ν : NC} {a : AS} (hR : RR μ ν a) (ho : o < tn (a 0 22)) (hask : noAsk a o) : f_X8_cancel w μ ν (nI o) = some (3, ((μ, ν), 0)) := by
  unfold f_X8_cancel
  rw [ltt hR.1.1, k_reqO hR ho]
  simp only [cond_true, Option.bind_some]
  rw [eqs, k_askable hR ho, if_pos hask]
  rfl
theorem k_cancelY {w : Nat} {μ : MP} {ν : NC} {a : AS} {x : Int32} (hR : RR μ ν a) (h : x < 0 ∨ a 0 22 ≤ x) : f_X8_cancel w μ ν x = some (1, ((μ, ν), 0)) := by
  unfold f_X8_cancel
  rw [ltt hR.1.1, k_reqOX hR h]
  rfl
/-! the reference's side of it -/
theorem r_isOrd {w o k : Nat} {a : AS} (e : a 0 22 = nI k) (hk : k ≤ 40) (ho : o < k) : f_X9_isOrder w a (nI o) = some (nI 1) := by
  have c : ¬ (nI o < nI 0 ∨ nI (k - 1) < nI o) := fun h => by
    rcases h with h | h
    · exact absurd h (nIb _ (by omega))
    · have := (nI_ltI (by omega) (by omega)).mp h; omega
  unfold f_X9_isOrder
  rw [r_in, e, q0, q1, pk_sub (by omega), if_neg c]
  rfl
theorem r_isOrdX {w k : Nat} {a : AS} {x : Int32} (e : a 0 22 = nI k) (hk : k ≤ 40) (h : x < 0 ∨ nI k ≤ x) : f_X9_isOrder w a x = some (nI 0) := by
  have hx : x < nI 0 ∨ nI k - nI 1 < x := by
    rcases h with h | h
    · exact Or.inl h
    · by_cases c : x < 0
      · exact Or.inl c
      · obtain ⟨j, hj, rfl⟩ := nI_of c
        have := (nI_leI (by omega) (by omega)).mp h
        by_cases ck : k = 0
        · subst ck
          refine Or.inr ?_
          have h1 : (nI 0 - nI 1 : Int32) < nI 0 := by decide
          exact Int32.lt_of_lt_of_le h1 ((nI_leI (by decide) hj).mpr (Nat.zero_le _))
        · rw [pk_sub (by omega)]
          exact Or.inr ((nI_ltI (by omega) hj).mpr (by omega))
  unfold f_X9_isOrder
  rw [r_in, e, q0, q1, if_pos hx]
  rfl
theorem r_cancel {w o k n : Nat} {c : Nat} {a : AS} (e : a 0 22 = nI k) (hk : k ≤ 40) (ho : o < k) (hask : ¬ noAsk a o) (hr : rgo a 0 n c) (hn : n + 1 ≤ 8191) (hc : c ≤ 131072) : f_X9_cancel w a (nI o) = some (gReq a o (nI 6) (nI 0) (nI 0), a 30 o + nI 1) := by
  obtain ⟨e4, ⟨h, e19, hh⟩, e20⟩ := hr
  have hs := r_sends (w := w) (a := up2 (up2 a 0 0 (nI 0)) 30 o (a 30 o + nI 1)) (s := 0) (n := n) (h := h) (k := c) (kd := nI 6) (o1 := nI o) (o2 := nI 0) (o3 := nI 0) (o4 := nI 0) (by decide) (by simp (disch := omega) only [up2_n]; exact e4) hn (by simp (disch := omega) only [up2_n]; exact e19) hh (by simp (disch := omega) only [up2_n]; exact e20) hc
  have h30 : gReq a o (nI 6) (nI 0) (nI 0) 30 o = a 30 o + nI 1 := by
    unfold gReq
    rw [gSends_k _ _ _ _ _ _ _ _ _ (by decide) (by decide) (by decide) (by decide) (by decide), up2_s]
  unfold f_X9_cancel
  rw [r_isOrd e hk ho]
  simp only [Option.bind_some]
  rw [if_neg (show ¬ nI 1 = (0 : Int32) by decide), r_canAsk (by omega), if_neg hask]
  simp only [Option.bind_some]
  rw [if_neg (show ¬ nI 1 = (0 : Int32) by decide)]
  unfold b_X9_cancel_26
  simp only [yl]
  rw [q0, q1, if_pos (show up2 a 0 0 (nI 0) 0 0 ≤ nI 0 by rw [up2_s]; exact Int32.le_refl _), ixn (by omega) (by omega), nI_clamp (by omega), up2_n _ _ (by omega)]
  simp only [cond_true]
  rw [show (6 : Int32) = nI 6 from rfl, hs]
  simp only [Option.bind_some]
  rw [show gSends (up2 (up2 a 0 0 (nI 0)) 30 o (a 30 o + nI 1)) 0 (nI 6) (nI o) (nI 0) (nI 0) (nI 0) = gReq a o (nI 6) (nI 0) (nI 0) from rfl, h30]
theorem r_cancelX {w o k : Nat} {a : AS} (e : a 0 22 = nI k) (hk : k ≤ 40) (ho : o < k) (hask : noAsk a o) : f_X9_cancel w a (nI o) = some (up2 a 0 0 (nI 2), nI 0) := by
  unfold f_X9_cancel
  rw [r_isOrd e hk ho]
  simp only [Option.bind_some]
  rw [if_neg (show ¬ nI 1 = (0 : Int32) by decide), r_canAsk (by omega), if_pos hask]
  simp only [Option.bind_some]
  rw [if_pos (show nI 0 = (0 : Int32) from rfl)]
  unfold b_X9_cancel_26
  simp only [yl]
  rw [up2_s, if_neg (by decide)]
  rfl
theorem r_cancelY {w k : Nat} {a : AS} {x : Int32} (e : a 0 22 = nI k) (hk : k ≤ 40) (h : x < 0 ∨ nI k ≤ x) : f_X9_cancel w a x = some (up2 a 0 0 (nI 1), nI 0) := by
  unfold f_X9_cancel
  rw [r_isOrdX e hk h]
  simp only [Option.bind_some]
  rw [if_pos (show nI 0 = (0 : Int32) from rfl)]
  unfold b_X9_cancel_26
  simp only [yl]
  rw [up2_s, if_neg (by decide)]
  rfl
/-- out of a range -/
abbrev rgX (x lo hi : Int32) : Prop := x < lo ∨ hi < x
theorem k_range {w : Nat} {μ : MP} {ν : NC} {x lo hi : Int32} : f_X8_requireRange w μ ν x lo hi = some (if rgX x lo hi then 2 else 0, 0) := by
  unfold f_X8_requireRange
  by_cases c : x < lo
  · rw [if_pos c, if_pos (show rgX x lo hi from Or.inl c)]; rfl
  · rw [if_neg c]
    by_cases c1 : x ≤ hi
    · rw [if_pos c1, if_neg (show ¬ rgX x lo hi from fun h => h.elim c (Int32.not_lt.mpr c1))]
    · rw [if_neg c1, if_pos (show rgX x lo hi from Or.inr (Int32.not_le.mp c1))]; rfl
theorem k_replace {w o : Nat} {μ : MP} {ν : NC} {a : AS} {x y : Int32} (hR : RR μ ν a) (ho : o < tn (a 0 22)) (hx : ¬ rgX x 1 100) (hy : ¬ rgX y 1 100) (hask : ¬ noAsk a o) (hrm : roomS a 0 1) :
    ∃ (μ' : MP) (ν' : NC), f_X8_replace w μ ν (nI o) x y = some (0, ((μ', ν'), a 30 o + nI 1)) ∧ RR μ' ν' (gReq a o (nI 7) x y) ∧ ν'.2 20 = ν.2 20 ∧ bal ν' (gReq a o (nI 7) x y) = bal ν a ∧ ∀ c y : Int, RC c y ν → RC c y ν' := by
  obtain ⟨o1, o2, o3, o4, o5, o6, o7, o8, o9, o10, o11⟩ := ordOf hR ho
  have hR1 := RR_t30 (v := a 30 o + nI 1) (RR_stop (v := nI 0) hR) ho
  have hrm' : roomS (up2 (up2 a 0 0 (nI 0)) 30 o (a 30 o + nI 1)) 0 1 := roomS_of hrm rfl rfl
  obtain ⟨μ', ν', t1, t2, t3, t4, t5, t6⟩ := k_sendL (w := w) (s := 0) (nb := 6) (fb0 := up1 (up1 (up1 (up1 (up1 (up1 (fun _ => (0 : Int32)) 0 (41 : Int32)) 1 (nI o)) 2 (44 : Int32)) 3 x) 4 (38 : Int32)) 5 y) (kd := nI 7) (o1 := nI o) (o2 := x) (o3 := y) (o4 := nI 0) (RR_chg 1 6 hR1) (by decide) hrm' (by omega) (Or.inr (Or.inr (Or.inr (Or.inr (Or.inl ⟨rfl, rfl, rfl, rfl, rfl, rfl, rfl, rfl⟩)))))
  refine ⟨μ', ν', ?_, t2, t4, (bal_send (ν := ν) (by decide) hrm' t3).trans (bal_of rfl rfl), fun c y h => RC_le (t6 _ _ (hC8 _ 6 _ _ h)) (by omega) (by omega)⟩
  have e30 : μ'.1 20 o 7 = a 30 o + nI 1 := by
    have ho' : o < tn (gReq a o (nI 7) x y 0 22) := by
      unfold gReq
      rw [gSends_k _ _ _ _ _ _ _ _ _ (by decide) (by decide) (by decide) (by decide) (by decide)]
      exact ho
    have := (ordOf t2 ho').2.2.2.2.2.2.2.2.2.1
    rw [this, gSends_k _ _ _ _ _ _ _ _ _ (by decide) (by decide) (by decide) (by decide) (by decide), up2_s]
  have h27 : b_X8_replace_27 w μ ν (nI o) x y (o + 1) = some ((μ', ν'), a 30 o + nI 1) := by
    unfold b_X8_replace_27
    rw [nzs, Nat.add_sub_cancel, ltt o1, o10]
    simp only [cond_true, yl]
    unfold b_X8_replace_46
    rw [show (chg ν 1 6).2 = ν.2 from rfl, ltt hR.1.1, decide_eq_true (show o + 1 ≤ ν.2 20 by omega)]
    simp only [cond_true]
    have t1' : f_X8_send_L w (uM μ 20 o 7 (a 30 o + (1 : Int32))) (chg ν 1 6) (0 : Int32) (7 : Int32) 6 (up1 (up1 (up1 (up1 (up1 (up1 (fun _ => (0 : Int32)) 0 (41 : Int32)) 1 (nI o)) 2 (44 : Int32)) 3 x) 4 (38 : Int32)) 5 y) = some ((μ', ν'), 0) := t1
    rw [t1']
    simp only [Option.bind_some]
    unfold b_X8_replace_76
    rw [nzs, Nat.add_sub_cancel, t4, show (chg ν 1 6).2 = ν.2 from rfl, ltt o1, e30]
    rfl
  unfold f_X8_replace
  rw [ltt hR.1.1, k_reqO hR ho]
  simp only [cond_true, Option.bind_some]
  rw [eqs, k_range, if_neg hx]
  simp only [cond_true, Option.bind_some]
  rw [eqs, k_range, if_neg hy]
  simp only [cond_true, Option.bind_some]
  rw [eqs, k_askable hR ho, if_neg hask]
  simp only [cond_true, Option.bind_some]
  rw [eqs, h27]
  rfl
/-- the reason that a replace fails for: 0 none -/
def rpWhy (a : AS) (o : Nat) (x y : Int32) : Nat := if rgX x 1 100 then 2 else if rgX y 1 100 then 2 else if noAsk a o then 3 else 0
theorem k_replaceX {w o : Nat} {μ : MP} {ν : NC} {a : AS} {x y : Int32} (hR : RR μ ν a) (ho : o < tn (a 0 22)) (h : rpWhy a o x y ≠ 0) : f_X8_replace w μ ν (nI o) x y = some (rpWhy a o x y, ((μ, ν), 0)) := by
  unfold rpWhy at h ⊢
  unfold f_X8_replace
  rw [ltt hR.1.1, k_reqO hR ho]
  simp only [cond_true, Option.bind_some]
  rw [eqs, k_range]
  simp only [cond_true, Option.bind_some]
  by_cases c : rgX x 1 100
  · rw [if_pos c, if_pos c]; rfl
  · rw [if_neg c, if_neg c, eqs, k_range]
    rw [if_neg c] at h
    simp only [cond_true, Option.bind_some]
    by_cases c1 : rgX y 1 100
    · rw [if_pos c1, if_pos c1]; rfl
    · rw [if_neg c1, if_neg c1, eqs, k_askable hR ho]
      rw [if_neg c1] at h
      simp only [cond_true, Option.bind_some]
      by_cases c2 : noAsk a o
      · rw [if_pos c2]; rfl
      · rw [if_neg c2] at h; exact absurd rfl h
theorem k_replaceY {w : Nat} {μ : MP} {ν : NC} {a : AS} {x y z : Int32} (hR : RR μ ν a) (h : x < 0 ∨ a 0 22 ≤ x) : f_X8_replace w μ ν x y z = some (1, ((μ, ν), 0)) := by
  unfold f_X8_replace
  rw [ltt hR.1.1, k_reqOX hR h]
  rfl
theorem r_replace {w o k n : Nat} {c : Nat} {a : AS} {x y : Int32} (e : a 0 22 = nI k) (hk : k ≤ 40) (ho : o < k) (hx : ¬ rgX x 1 100) (hy : ¬ rgX y 1 100) (hask : ¬ noAsk a o) (hr : rgo a 0 n c) (hn : n + 1 ≤ 8191) (hc : c ≤ 131072) : f_X9_replace w a (nI o) x y = some (gReq a o (nI 7) x y, a 30 o + nI 1) := by
  obtain ⟨e4, ⟨h, e19, hh⟩, e20⟩ := hr
  have hs := r_sends (w := w) (a := up2 (up2 a 0 0 (nI 0)) 30 o (a 30 o + nI 1)) (s := 0) (n := n) (h := h) (k := c) (kd := nI 7) (o1 := nI o) (o2 := x) (o3 := y) (o4 := nI 0) (by decide) (by simp (disch := omega) only [up2_n]; exact e4) hn (by simp (disch := omega) only [up2_n]; exact e19) hh (by simp (disch := omega) only [up2_n]; exact e20) hc
  have h30 : gReq a o (nI 7) x y 30 o = a 30 o + nI 1 := by
    unfold gReq
    rw [gSends_k _ _ _ _ _ _ _ _ _ (by decide) (by decide) (by decide) (by decide) (by decide), up2_s]
  unfold f_X9_replace
  rw [r_isOrd e hk ho]
  simp only [Option.bind_some]
  rw [if_neg (show ¬ nI 1 = (0 : Int32) by decide), r_in, if_neg hx]
  simp only [Option.bind_some]
  rw [if_neg (show ¬ nI 1 = (0 : Int32) by decide), r_in, if_neg hy]
  simp only [Option.bind_some]
  rw [if_neg (show ¬ nI 1 = (0 : Int32) by decide), r_canAsk (by omega), if_neg hask]
  simp only [Option.bind_some]
  rw [if_neg (show ¬ nI 1 = (0 : Int32) by decide)]
  unfold b_X9_replace_50
  simp only [yl]
  rw [show (0 : Int32) = nI 0 from rfl, if_pos (show up2 a 0 0 (nI 0) 0 0 ≤ nI 0 by rw [up2_s]; exact Int32.le_refl _), ixn (by omega) (by omega), nI_clamp (by omega), up2_n _ _ (by omega)]
  simp only [cond_true]
  rw [show (7 : Int32) = nI 7 from rfl, show a 30 o + (1 : Int32) = a 30 o + nI 1 from rfl, hs]
  simp only [Option.bind_some]
  rw [show gSends (up2 (up2 a 0 0 (nI 0)) 30 o (a 30 o + nI 1)) 0 (nI 7) (nI o) x y (nI 0) = gReq a o (nI 7) x y from rfl, h30]
theorem r_replaceX {w o k : Nat} {a : AS} {x y : Int32} (e : a 0 22 = nI k) (hk : k ≤ 40) (ho : o < k) (h : rpWhy a o x y ≠ 0) : f_X9_replace w a (nI o) x y = some (up2 a 0 0 (nI (rpWhy a o x y)), nI 0) := by
  have h50 : ∀ j : Nat, j = 2 ∨ j = 3 → b_X9_replace_50 w a (nI o) x y (nI j) = some (up2 a 0 0 (nI j), nI 0) := fun j hj => by
    unfold b_X9_replace_50
    simp only [yl]
    rw [up2_s]
    rcases hj with rfl | rfl <;> rw [if_neg (by decide)] <;> rfl
  unfold rpWhy at h ⊢
  unfold f_X9_replace
  rw [r_isOrd e hk ho]
  simp only [Option.bind_some]
  rw [if_neg (show ¬ nI 1 = (0 : Int32) by decide), r_in]
  simp only [Option.bind_some]
  by_cases c : rgX x 1 100
  · rw [if_pos c, if_pos c, if_pos (show nI 0 = (0 : Int32) from rfl)]
    exact h50 2 (Or.inl rfl)
  · rw [if_neg c] at h
    rw [if_neg c, if_neg c, if_neg (show ¬ nI 1 = (0 : Int32) by decide), r_in]
    simp only [Option.bind_some]
    by_cases c1 : rgX y 1 100
    · rw [if_pos c1, if_pos c1, if_pos (show nI 0 = (0 : Int32) from rfl)]
      exact h50 2 (Or.inl rfl)
    · rw [if_neg c1] at h
      rw [if_neg c1, if_neg c1, if_neg (show ¬ nI 1 = (0 : Int32) by decide), r_canAsk (by omega)]
      simp only [Option.bind_some]
      by_cases c2 : noAsk a o
      · rw [if_pos c2, if_pos c2, if_pos (show nI 0 = (0 : Int32) from rfl)]
        exact h50 3 (Or.inr rfl)
      · rw [if_neg c2] at h; exact absurd rfl h
theorem r_replaceY {w k : Nat} {a : AS} {x y z : Int32} (e : a 0 22 = nI k) (hk : k ≤ 40) (h : x < 0 ∨ nI k ≤ x) : f_X9_replace w a x y z = some (up2 a 0 0 (nI 1), nI 0) := by
  unfold f_X9_replace
  rw [r_isOrdX e hk h]
  simp only [Option.bind_some]
  rw [if_pos (show nI 0 = (0 : Int32) from rfl)]
  unfold b_X9_replace_50
  simp only [yl]
  rw [up2_s, if_neg (by decide)]
  rfl
