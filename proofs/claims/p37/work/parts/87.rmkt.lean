/-! The reference's venues, routing, executions. -/
theorem nIm1 {x : Nat} (h : x < 2 ^ 31) : ¬ nI x = -nI 1 := fun e => by
  have h1 := congrArg Int32.toInt e
  rw [nI_toInt h, show (-nI 1 : Int32).toInt = -1 by decide] at h1
  omega
abbrev lft (a : AS) (b : Nat) : Int32 := a 26 b - a 27 b - a 28 b
theorem r_left {w : Nat} {a : AS} {b : Nat} (hb : b < 80) : f_X9_leftIn w a (nI b) = some (lft a b) := by
  simp (disch := omega) only [f_X9_leftIn, yl, cond_true, cond_false, Option.bind_some, ixn, nI_clamp, nI_add, pk_mul, pk_sub, pk_rem, pk_div, up2_s, up2_n, up1_s, up1_n, mdn, nar0, nar1, q0, q1, q2, q3, q4, q5, q6, q7, q8, q10, q15, q20, q25, q40, q50, q80, q100, q200, q256, q8192, q16384, q65536]
abbrev gFits (a : AS) (o q : Nat) : Prop := if a 23 o = nI 0 then ¬ a 25 (40 + o) < a 33 q else ¬ a 33 q < a 25 (40 + o)
abbrev gBet (a : AS) (o q b : Nat) : Prop := if a 33 q = a 33 b then ¬ a 34 q ≤ a 34 b else if a 23 o = nI 0 then ¬ a 33 b ≤ a 33 q else a 33 b ≤ a 33 q
/-- the best quote so far: a venue + 1, or 0 -/
def gBest1 (a : AS) (d o p v : Nat) : Nat := if ¬ a 34 (2 * v + d) ≤ nI 0 ∧ gFits a o (2 * v + d) ∧ (p = 0 ∨ gBet a o (2 * v + d) (2 * (p - 1) + d)) then v + 1 else p
def gBestD (a : AS) (d o : Nat) : Nat := gBest1 a d o (gBest1 a d o (gBest1 a d o 0 0) 1) 2
def gBest (a : AS) (o : Nat) : Nat := gBestD a (tn (a 23 o)) o
def qI (d p : Nat) : Int32 := if p = 0 then -nI 1 else nI (2 * (p - 1) + d)
theorem r_better {w : Nat} {a : AS} {o q d p : Nat} (hd : d < 2) (e : a 23 o = nI d) (hq : q < 6) (hp : p ≤ 3) : f_X9_isBetter w a (nI q) (qI d p) (nI d) = some (if p = 0 ∨ gBet a o q (2 * (p - 1) + d) then nI 1 else nI 0) := by
  unfold qI
  by_cases hp0 : p = 0
  · subst hp0
    simp (disch := omega) only [f_X9_isBetter, b_X9_isBetter_20, if_true, true_or, yl, cond_true, cond_false, Option.bind_some, ixn, nI_clamp, nI_add, pk_mul, pk_sub, pk_rem, pk_div, up2_s, up2_n, up1_s, up1_n, mdn, nar0, nar1, q0, q1, q2, q3, q4, q5, q6, q7, q8, q10, q15, q20, q25, q40, q50, q80, q100, q200, q256, q8192, q16384, q65536]
  · rw [if_neg hp0]
    have hb : 2 * (p - 1) + d < 6 := by omega
    generalize 2 * (p - 1) + d = b at hb
    have hm := nIm1 (show b < 2 ^ 31 by omega)
    simp only [hp0, false_or]
    unfold gBet
    rw [e]
    rcases (show d = 0 ∨ d = 1 by omega) with rfl | rfl
    · have h01 : ¬ nI 1 = nI 0 := by decide
      by_cases h1 : a 33 q = a 33 b
      · by_cases h2 : a 34 q ≤ a 34 b
        · simp (disch := omega) only [f_X9_isBetter, hm, h1, h2, if_true, if_false, not_true, yl, cond_true, cond_false, Option.bind_some, ixn, nI_clamp, nI_add, pk_mul, pk_sub, pk_rem, pk_div, up2_s, up2_n, up1_s, up1_n, mdn, nar0, nar1, q0, q1, q2, q3, q4, q5, q6, q7, q8, q10, q15, q20, q25, q40, q50, q80, q100, q200, q256, q8192, q16384, q65536]
        · simp (disch := omega) only [f_X9_isBetter, hm, h1, h2, if_true, if_false, not_false_iff, yl, cond_true, cond_false, Option.bind_some, ixn, nI_clamp, nI_add, pk_mul, pk_sub, pk_rem, pk_div, up2_s, up2_n, up1_s, up1_n, mdn, nar0, nar1, q0, q1, q2, q3, q4, q5, q6, q7, q8, q10, q15, q20, q25, q40, q50, q80, q100, q200, q256, q8192, q16384, q65536]
      · by_cases h2 : a 33 b ≤ a 33 q
        · simp (disch := omega) only [f_X9_isBetter, b_X9_isBetter_20, b_X9_isBetter_45, hm, h1, h2, if_true, if_false, not_true, yl, cond_true, cond_false, Option.bind_some, ixn, nI_clamp, nI_add, pk_mul, pk_sub, pk_rem, pk_div, up2_s, up2_n, up1_s, up1_n, mdn, nar0, nar1, q0, q1, q2, q3, q4, q5, q6, q7, q8, q10, q15, q20, q25, q40, q50, q80, q100, q200, q256, q8192, q16384, q65536]
        · simp (disch := omega) only [f_X9_isBetter, b_X9_isBetter_20, b_X9_isBetter_45, hm, h1, h2, h01, if_true, if_false, not_false_iff, yl, cond_true, cond_false, Option.bind_some, ixn, nI_clamp, nI_add, pk_mul, pk_sub, pk_rem, pk_div, up2_s, up2_n, up1_s, up1_n, mdn, nar0, nar1, q0, q1, q2, q3, q4, q5, q6, q7, q8, q10, q15, q20, q25, q40, q50, q80, q100, q200, q256, q8192, q16384, q65536]
    · have h01 : ¬ nI 1 = nI 0 := by decide
      have h10 : ¬ nI 0 = nI 1 := by decide
      by_cases h1 : a 33 q = a 33 b
      · by_cases h2 : a 34 q ≤ a 34 b
        · simp (disch := omega) only [f_X9_isBetter, hm, h1, h2, if_true, if_false, not_true, yl, cond_true, cond_false, Option.bind_some, ixn, nI_clamp, nI_add, pk_mul, pk_sub, pk_rem, pk_div, up2_s, up2_n, up1_s, up1_n, mdn, nar0, nar1, q0, q1, q2, q3, q4, q5, q6, q7, q8, q10, q15, q20, q25, q40, q50, q80, q100, q200, q256, q8192, q16384, q65536]
        · simp (disch := omega) only [f_X9_isBetter, hm, h1, h2, if_true, if_false, not_false_iff, yl, cond_true, cond_false, Option.bind_some, ixn, nI_clamp, nI_add, pk_mul, pk_sub, pk_rem, pk_div, up2_s, up2_n, up1_s, up1_n, mdn, nar0, nar1, q0, q1, q2, q3, q4, q5, q6, q7, q8, q10, q15, q20, q25, q40, q50, q80, q100, q200, q256, q8192, q16384, q65536]
      · by_cases h2 : a 33 b ≤ a 33 q
        · simp (disch := omega) only [f_X9_isBetter, b_X9_isBetter_20, b_X9_isBetter_45, hm, h1, h2, h01, h10, if_true, if_false, not_true, yl, cond_true, cond_false, Option.bind_some, ixn, nI_clamp, nI_add, pk_mul, pk_sub, pk_rem, pk_div, up2_s, up2_n, up1_s, up1_n, mdn, nar0, nar1, q0, q1, q2, q3, q4, q5, q6, q7, q8, q10, q15, q20, q25, q40, q50, q80, q100, q200, q256, q8192, q16384, q65536]
        · simp (disch := omega) only [f_X9_isBetter, b_X9_isBetter_20, b_X9_isBetter_45, hm, h1, h2, h01, if_true, if_false, not_false_iff, yl, cond_true, cond_false, Option.bind_some, ixn, nI_clamp, nI_add, pk_mul, pk_sub, pk_rem, pk_div, up2_s, up2_n, up1_s, up1_n, mdn, nar0, nar1, q0, q1, q2, q3, q4, q5, q6, q7, q8, q10, q15, q20, q25, q40, q50, q80, q100, q200, q256, q8192, q16384, q65536]
theorem r_qfor1 {w : Nat} {a : AS} {o d p v m : Nat} (ho : o < 40) (hd : d < 2) (e : a 23 o = nI d) (hv : v < 3) (hp : p ≤ 3) : l_X9_quoteFor_10 w a (m + 1) (nI o) (nI (40 + o)) (qI d p) (nI v) = l_X9_quoteFor_10 w a m (nI o) (nI (40 + o)) (qI d (gBest1 a d o p v)) (nI (v + 1)) := by
  have hb := r_better (w := w) (a := a) (o := o) (q := 2 * v + d) hd e (by omega) hp
  have c0 : ¬ 3 ≤ v := by omega
  have h10 : ¬ nI 1 = nI 0 := by decide
  have h11 : ¬ (1 : Int32) = 0 := by decide
  have h12 : ¬ (1 : Int32) = nI 0 := by decide
  have hq : ∀ s0 : Int32, b_X9_quoteFor_91 (l_X9_quoteFor_10 w a m) w a (nI o) (nI (40 + o)) (qI d p) (nI v) (nI (2 * v + d)) s0 = l_X9_quoteFor_10 w a m (nI o) (nI (40 + o)) (if ¬ a 34 (2 * v + d) ≤ nI 0 ∧ ¬ s0 = nI 0 ∧ (p = 0 ∨ gBet a o (2 * v + d) (2 * (p - 1) + d)) then nI (2 * v + d) else qI d p) (nI (v + 1)) := fun s0 => by
    by_cases h1 : a 34 (2 * v + d) ≤ nI 0
    · simp (disch := omega) only [b_X9_quoteFor_91, b_X9_quoteFor_129, b_X9_quoteFor_130, h1, not_true, false_and, if_true, if_false, yl, cond_true, cond_false, Option.bind_some, ixn, nI_clamp, nI_add, pk_mul, pk_sub, pk_rem, pk_div, up2_s, up2_n, up1_s, up1_n, mdn, nar0, nar1, q0, q1, q2, q3, q4, q5, q6, q7, q8, q10, q15, q20, q25, q40, q50, q80, q100, q200, q256, q8192, q16384, q65536]
    · by_cases h2 : s0 = nI 0
      · simp (disch := omega) only [b_X9_quoteFor_91, b_X9_quoteFor_129, b_X9_quoteFor_130, h1, h2, not_true, not_false_iff, true_and, false_and, if_true, if_false, yl, cond_true, cond_false, Option.bind_some, ixn, nI_clamp, nI_add, pk_mul, pk_sub, pk_rem, pk_div, up2_s, up2_n, up1_s, up1_n, mdn, nar0, nar1, q0, q1, q2, q3, q4, q5, q6, q7, q8, q10, q15, q20, q25, q40, q50, q80, q100, q200, q256, q8192, q16384, q65536]
      · by_cases h3 : p = 0 ∨ gBet a o (2 * v + d) (2 * (p - 1) + d)
        · rw [if_pos h3] at hb
          simp (disch := omega) only [b_X9_quoteFor_91, b_X9_quoteFor_129, b_X9_quoteFor_130, h1, h2, h3, e, hb, h10, not_true, not_false_iff, true_and, and_true, false_and, if_true, if_false, yl, cond_true, cond_false, Option.bind_some, ixn, nI_clamp, nI_add, pk_mul, pk_sub, pk_rem, pk_div, up2_s, up2_n, up1_s, up1_n, mdn, nar0, nar1, q0, q1, q2, q3, q4, q5, q6, q7, q8, q10, q15, q20, q25, q40, q50, q80, q100, q200, q256, q8192, q16384, q65536]
        · rw [if_neg h3] at hb
          simp (disch := omega) only [b_X9_quoteFor_91, b_X9_quoteFor_129, b_X9_quoteFor_130, h1, h2, h3, e, hb, not_true, not_false_iff, true_and, and_false, false_and, if_true, if_false, yl, cond_true, cond_false, Option.bind_some, ixn, nI_clamp, nI_add, pk_mul, pk_sub, pk_rem, pk_div, up2_s, up2_n, up1_s, up1_n, mdn, nar0, nar1, q0, q1, q2, q3, q4, q5, q6, q7, q8, q10, q15, q20, q25, q40, q50, q80, q100, q200, q256, q8192, q16384, q65536]
  have hs : ∀ b : Bool, qI d (if b then v + 1 else p) = if b then nI (2 * v + d) else qI d p := fun b => by cases b <;> rfl
  have hf : ∀ P : Prop, [Decidable P] → qI d (if P then v + 1 else p) = if P then nI (2 * v + d) else qI d p := fun P _ => by
    by_cases hP : P
    · rw [if_pos hP, if_pos hP]; rfl
    · rw [if_neg hP, if_neg hP]
  unfold gBest1
  rw [hf]
  rcases (show d = 0 ∨ d = 1 by omega) with rfl | rfl
  · by_cases h1 : a 25 (40 + o) < a 33 (2 * v + 0)
    · simp (disch := omega) only [l_X9_quoteFor_10, b_X9_quoteFor_10, b_X9_quoteFor_34, nI_eq, nI_leI, nI_ltI, c0, e, h1, if_true, if_false, yl, cond_true, cond_false, Option.bind_some, ixn, nI_clamp, nI_add, pk_mul, pk_sub, pk_rem, pk_div, up2_s, up2_n, up1_s, up1_n, mdn, nar0, nar1, q0, q1, q2, q3, q4, q5, q6, q7, q8, q10, q15, q20, q25, q40, q50, q80, q100, q200, q256, q8192, q16384, q65536, hq]
      simp only [e, h1, gFits, if_true, not_true]
    · simp (disch := omega) only [l_X9_quoteFor_10, b_X9_quoteFor_10, b_X9_quoteFor_34, nI_eq, nI_leI, nI_ltI, c0, e, h1, if_true, if_false, yl, cond_true, cond_false, Option.bind_some, ixn, nI_clamp, nI_add, pk_mul, pk_sub, pk_rem, pk_div, up2_s, up2_n, up1_s, up1_n, mdn, nar0, nar1, q0, q1, q2, q3, q4, q5, q6, q7, q8, q10, q15, q20, q25, q40, q50, q80, q100, q200, q256, q8192, q16384, q65536, hq]
      simp +decide only [e, h1, h10, h11, h12, gFits, if_true, not_false_iff]
  · by_cases h1 : a 33 (2 * v + 1) < a 25 (40 + o)
    · simp (disch := omega) only [l_X9_quoteFor_10, b_X9_quoteFor_10, b_X9_quoteFor_34, nI_eq, nI_leI, nI_ltI, c0, e, h1, h10, if_true, if_false, yl, cond_true, cond_false, Option.bind_some, ixn, nI_clamp, nI_add, pk_mul, pk_sub, pk_rem, pk_div, up2_s, up2_n, up1_s, up1_n, mdn, nar0, nar1, q0, q1, q2, q3, q4, q5, q6, q7, q8, q10, q15, q20, q25, q40, q50, q80, q100, q200, q256, q8192, q16384, q65536, hq]
      simp only [e, h1, h10, h11, h12, gFits, if_false, not_true]
    · simp (disch := omega) only [l_X9_quoteFor_10, b_X9_quoteFor_10, b_X9_quoteFor_34, nI_eq, nI_leI, nI_ltI, c0, e, h1, h10, if_true, if_false, yl, cond_true, cond_false, Option.bind_some, ixn, nI_clamp, nI_add, pk_mul, pk_sub, pk_rem, pk_div, up2_s, up2_n, up1_s, up1_n, mdn, nar0, nar1, q0, q1, q2, q3, q4, q5, q6, q7, q8, q10, q15, q20, q25, q40, q50, q80, q100, q200, q256, q8192, q16384, q65536, hq]
      simp +decide only [e, h1, h10, h11, h12, gFits, if_false, not_false_iff]
theorem gBest1_le (a : AS) (d o p v : Nat) (hp : p ≤ 3) (hv : v < 3) : gBest1 a d o p v ≤ 3 := by
  unfold gBest1
  split <;> omega
theorem gBest_le (a : AS) (o : Nat) : gBest a o ≤ 3 := gBest1_le _ _ _ _ _ (gBest1_le _ _ _ _ _ (gBest1_le _ _ _ _ _ (by decide) (by decide)) (by decide)) (by decide)
theorem r_qfor {w : Nat} {a : AS} {o d : Nat} (ho : o < 40) (hd : d < 2) (e : a 23 o = nI d) (hw : 3 < w) : f_X9_quoteFor w a (nI o) = some (qI d (gBest a o)) := by
  obtain ⟨m, rfl⟩ : ∃ m, w = m + 4 := ⟨w - 4, by omega⟩
  have eg : gBest a o = gBestD a d o := by unfold gBest; rw [e, tn, nI_clamp (by omega)]
  rw [eg]
  have h1 : ∀ W, l_X9_quoteFor_10 W a (m + 4) (nI o) (nI (40 + o)) (-nI 1) (nI 0) = some (qI d (gBestD a d o)) := fun W => by
    have z : (-nI 1 : Int32) = qI d 0 := rfl
    rw [z, show m + 4 = (m + 3) + 1 from rfl, r_qfor1 ho hd e (by decide) (by decide), show m + 3 = (m + 2) + 1 from rfl, r_qfor1 ho hd e (by decide) (gBest1_le _ _ _ _ _ (by decide) (by decide)), show m + 2 = (m + 1) + 1 from rfl, r_qfor1 ho hd e (by decide) (gBest1_le _ _ _ _ _ (gBest1_le _ _ _ _ _ (by decide) (by decide)) (by decide))]
    simp (disch := omega) only [l_X9_quoteFor_10, b_X9_quoteFor_10, nI_eq, nI_leI, nI_ltI, Nat.le_refl, if_true, yl, cond_true, cond_false, Option.bind_some, ixn, nI_clamp, nI_add, pk_mul, pk_sub, pk_rem, pk_div, up2_s, up2_n, up1_s, up1_n, mdn, nar0, nar1, q0, q1, q2, q3, q4, q5, q6, q7, q8, q10, q15, q20, q25, q40, q50, q80, q100, q200, q256, q8192, q16384, q65536]
    rfl
  have h2 := h1 (m + 4)
  simp (disch := omega) only [f_X9_quoteFor, yl, cond_true, cond_false, Option.bind_some, ixn, nI_clamp, nI_add, pk_mul, pk_sub, pk_rem, pk_div, up2_s, up2_n, up1_s, up1_n, mdn, nar0, nar1, q0, q1, q2, q3, q4, q5, q6, q7, q8, q10, q15, q20, q25, q40, q50, q80, q100, q200, q256, q8192, q16384, q65536]
  exact h2
/-- an execution: an order with a quote -/
def gTrade (a : AS) (o q : Nat) (its : Int32) : AS :=
  up2 (up2 (up2 (up2 (up2 (up2 (up2 (up2 (up2 (up2 a 36 (tn (a 0 35)) (nI o)) 37 (tn (a 0 35)) (nI (q / 2))) 38 (tn (a 0 35)) (a 0 44)) 39 (tn (a 0 35)) its) 40 (tn (a 0 35)) (a 33 q)) 41 (100 + tn (a 0 35)) (a 33 q)) 42 (100 + tn (a 0 35)) (nI 1)) 0 35 (nI (tn (a 0 35) + 1))) 27 (40 + o) (a 27 (40 + o) + its)) 34 q (a 34 q - its)
abbrev itsOf (a : AS) (o q : Nat) : Int32 := if a 34 q ≤ lft a (40 + o) then a 34 q else lft a (40 + o)
theorem r_trades {w : Nat} {a : AS} {o q e : Nat} (ho : o < 40) (hq : q < 6) (h : a 0 35 = nI e) (he : e < 100) : f_X9_trades w a (nI o) (nI q) = some (gTrade a o q (itsOf a o q), 0) := by
  by_cases h1 : a 34 q ≤ lft a (40 + o)
  · simp (disch := omega) only [f_X9_trades, b_X9_trades_33, r_left, gTrade, itsOf, h, h1, if_true, yl, cond_true, cond_false, Option.bind_some, ixn, nI_clamp, nI_add, pk_mul, pk_sub, pk_rem, pk_div, up2_s, up2_n, up1_s, up1_n, mdn, nar0, nar1, q0, q1, q2, q3, q4, q5, q6, q7, q8, q10, q15, q20, q25, q40, q50, q80, q100, q200, q256, q8192, q16384, q65536]
  · simp (disch := omega) only [f_X9_trades, b_X9_trades_33, r_left, gTrade, itsOf, h, h1, if_false, yl, cond_true, cond_false, Option.bind_some, ixn, nI_clamp, nI_add, pk_mul, pk_sub, pk_rem, pk_div, up2_s, up2_n, up1_s, up1_n, mdn, nar0, nar1, q0, q1, q2, q3, q4, q5, q6, q7, q8, q10, q15, q20, q25, q40, q50, q80, q100, q200, q256, q8192, q16384, q65536]
/-- routing: at most so many executions more -/
def gRouteL (o : Nat) : Nat → AS → AS
  | 0, a => a
  | k + 1, a => if gBest a o = 0 ∨ lft a (40 + o) ≤ nI 0 ∨ 100 ≤ tn (a 0 35) then a else gRouteL o k (gTrade a o (2 * (gBest a o - 1) + tn (a 23 o)) (itsOf a o (2 * (gBest a o - 1) + tn (a 23 o))))
def gRep (a : AS) (sort : Int32) (o : Nat) (x y : Int32) : AS := gSends a 1 (nI 8) sort (nI o) x y
def gRoutes (a : AS) (o : Nat) : AS :=
  if tn ((gRouteL o 102 a) 0 35) ≤ tn (a 0 35) then gRouteL o 102 a else gRep (gRouteL o 102 a) (nI 1) o (nI (tn (a 0 35))) (nI (tn ((gRouteL o 102 a) 0 35) - tn (a 0 35)))
/-- the house's ring and messages: what sending wants -/
abbrev rgo (a : AS) (s n k : Nat) : Prop := a 4 s = nI n ∧ (∃ h, a 19 (1 - s) = nI h ∧ h < 65536) ∧ a 20 (1 - s) = nI k
theorem r_rep {w : Nat} {a : AS} {o n k : Nat} {sort x y : Int32} (e : rgo a 1 n k) (hn : n + 1 ≤ 8191) (hk : k ≤ 131072) : f_X9_reports w a sort (nI o) x y = some (gRep a sort o x y, 0) := by
  obtain ⟨e4, ⟨h, e19, h2⟩, e20⟩ := e
  unfold f_X9_reports gRep
  rw [q1, r_sends (by decide) e4 hn e19 h2 e20 hk]
  rfl
theorem gTrade_k (a : AS) (o q : Nat) (its : Int32) (k i : Nat) (h : k ≠ 27) (h1 : k ≠ 34) (h2 : k < 36 ∨ 42 < k) (h3 : ¬ (k = 0 ∧ i = 35)) : gTrade a o q its k i = a k i := by
  simp (disch := omega) only [gTrade, up2_n]
theorem gTrade_e (a : AS) (o q e : Nat) (its : Int32) (h : a 0 35 = nI e) (he : e < 100) : gTrade a o q its 0 35 = nI (e + 1) := by
  simp (disch := omega) only [gTrade, h, yl, cond_true, cond_false, Option.bind_some, ixn, nI_clamp, nI_add, pk_mul, pk_sub, pk_rem, pk_div, up2_s, up2_n, up1_s, up1_n, mdn, nar0, nar1, q0, q1, q2, q3, q4, q5, q6, q7, q8, q10, q15, q20, q25, q40, q50, q80, q100, q200, q256, q8192, q16384, q65536]
theorem gRouteL_k (o : Nat) : ∀ (n : Nat) (a : AS) (k i : Nat), k ≠ 27 → k ≠ 34 → (k < 36 ∨ 42 < k) → ¬ (k = 0 ∧ i = 35) → gRouteL o n a k i = a k i := by
  intro n
  induction n with
  | zero => intro a k i _ _ _ _; rfl
  | succ n ih =>
    intro a k i h h1 h2 h3
    unfold gRouteL
    split
    · rfl
    · rw [ih _ _ _ h h1 h2 h3, gTrade_k _ _ _ _ _ _ h h1 h2 h3]
theorem r_routesL {w : Nat} {o d b : Nat} (ho : o < 40) (hd : d < 2) (hw : 3 < w) {n k : Nat} (hn : n + 1 ≤ 8191) (hk : k ≤ 131072) : ∀ (j m : Nat) (a : AS) (e : Nat), a 0 35 = nI e → e ≤ 100 → b ≤ e → 101 ≤ j + e → j ≤ m → a 23 o = nI d → rgo a 1 n k → l_X9_routes_11 w (m + 1) a (nI o) (nI b) (qI d (gBest a o)) = some (if tn ((gRouteL o (j + 1) a) 0 35) ≤ b then gRouteL o (j + 1) a else gRep (gRouteL o (j + 1) a) (nI 1) o (nI b) (nI (tn ((gRouteL o (j + 1) a) 0 35) - b)), 0) := by
  intro j
  induction j with
  | zero => intro m a e h1 h2 h3 h4; omega
  | succ j ih =>
    intro m a e h1 h2 h3 h4 h5 h6 h7
    have hend : l_X9_routes_11 w (m + 1) a (nI o) (nI b) (qI d (gBest a o)) = b_X9_routes_51 w a (nI o) (nI b) → gRouteL o (j + 1 + 1) a = a → l_X9_routes_11 w (m + 1) a (nI o) (nI b) (qI d (gBest a o)) = some (if tn ((gRouteL o (j + 1 + 1) a) 0 35) ≤ b then gRouteL o (j + 1 + 1) a else gRep (gRouteL o (j + 1 + 1) a) (nI 1) o (nI b) (nI (tn ((gRouteL o (j + 1 + 1) a) 0 35) - b)), 0) := fun g1 g2 => by
      rw [g1, g2]
      by_cases c : e ≤ b
      · simp (disch := omega) only [b_X9_routes_51, h1, nI_eq, nI_leI, nI_ltI, c, if_true, yl, cond_true, cond_false, Option.bind_some, ixn, nI_clamp, nI_add, pk_mul, pk_sub, pk_rem, pk_div, up2_s, up2_n, up1_s, up1_n, mdn, nar0, nar1, q0, q1, q2, q3, q4, q5, q6, q7, q8, q10, q15, q20, q25, q40, q50, q80, q100, q200, q256, q8192, q16384, q65536]
      · have hr := r_rep (w := w) (sort := nI 1) (o := o) (x := nI b) (y := nI (e - b)) h7 hn hk
        simp (disch := omega) only [b_X9_routes_51, h1, nI_eq, nI_leI, nI_ltI, c, if_false, hr, yl, cond_true, cond_false, Option.bind_some, ixn, nI_clamp, nI_add, pk_mul, pk_sub, pk_rem, pk_div, up2_s, up2_n, up1_s, up1_n, mdn, nar0, nar1, q0, q1, q2, q3, q4, q5, q6, q7, q8, q10, q15, q20, q25, q40, q50, q80, q100, q200, q256, q8192, q16384, q65536]
    have hle := gBest_le a o
    by_cases c1 : gBest a o = 0
    · refine hend ?_ (by unfold gRouteL; rw [if_pos (Or.inl c1)])
      rw [c1]
      simp (disch := omega) only [l_X9_routes_11, b_X9_routes_11, qI, if_true, yl, cond_true, cond_false, Option.bind_some, ixn, nI_clamp, nI_add, pk_mul, pk_sub, pk_rem, pk_div, up2_s, up2_n, up1_s, up1_n, mdn, nar0, nar1, q0, q1, q2, q3, q4, q5, q6, q7, q8, q10, q15, q20, q25, q40, q50, q80, q100, q200, q256, q8192, q16384, q65536]
    · have hq : qI d (gBest a o) = nI (2 * (gBest a o - 1) + d) := if_neg c1
      have hq6 : 2 * (gBest a o - 1) + d < 6 := by omega
      have hm := nIm1 (show 2 * (gBest a o - 1) + d < 2 ^ 31 by omega)
      by_cases c2 : lft a (40 + o) ≤ nI 0
      · refine hend ?_ (by unfold gRouteL; rw [if_pos (Or.inr (Or.inl c2))])
        rw [hq]
        simp (disch := omega) only [l_X9_routes_11, b_X9_routes_11, r_left, hm, c2, if_true, if_false, yl, cond_true, cond_false, Option.bind_some, ixn, nI_clamp, nI_add, pk_mul, pk_sub, pk_rem, pk_div, up2_s, up2_n, up1_s, up1_n, mdn, nar0, nar1, q0, q1, q2, q3, q4, q5, q6, q7, q8, q10, q15, q20, q25, q40, q50, q80, q100, q200, q256, q8192, q16384, q65536]
      · by_cases c3 : 100 ≤ e
        · refine hend ?_ (by unfold gRouteL; rw [if_pos (Or.inr (Or.inr (by rw [h1, tn, nI_clamp (by omega)]; exact c3)))])
          rw [hq]
          simp (disch := omega) only [l_X9_routes_11, b_X9_routes_11, r_left, hm, c2, h1, nI_eq, nI_leI, nI_ltI, c3, if_true, if_false, yl, cond_true, cond_false, Option.bind_some, ixn, nI_clamp, nI_add, pk_mul, pk_sub, pk_rem, pk_div, up2_s, up2_n, up1_s, up1_n, mdn, nar0, nar1, q0, q1, q2, q3, q4, q5, q6, q7, q8, q10, q15, q20, q25, q40, q50, q80, q100, q200, q256, q8192, q16384, q65536]
        · obtain ⟨m, rfl⟩ : ∃ m', m = m' + 1 := ⟨m - 1, by omega⟩
          have ht := r_trades (w := w) ho hq6 h1 (show e < 100 by omega)
          have h23 : gTrade a o (2 * (gBest a o - 1) + d) (itsOf a o (2 * (gBest a o - 1) + d)) 23 o = nI d := (gTrade_k _ _ _ _ _ _ (by decide) (by decide) (by decide) (by omega)).trans h6
          have hf := r_qfor (w := w) ho hd h23 hw
          have hih := ih m (gTrade a o (2 * (gBest a o - 1) + d) (itsOf a o (2 * (gBest a o - 1) + d))) (e + 1) (gTrade_e _ _ _ _ _ h1 (by omega)) (by omega) (by omega) (by omega) (by omega) h23 (by
            obtain ⟨e4, ⟨h, e19, g2⟩, e20⟩ := h7
            refine ⟨?_, ⟨h, ?_, g2⟩, ?_⟩
            · rw [gTrade_k _ _ _ _ _ _ (by decide) (by decide) (by decide) (by decide)]; exact e4
            · rw [gTrade_k _ _ _ _ _ _ (by decide) (by decide) (by decide) (by decide)]; exact e19
            · rw [gTrade_k _ _ _ _ _ _ (by decide) (by decide) (by decide) (by decide)]; exact e20)
          have hg : gRouteL o (j + 1 + 1) a = gRouteL o (j + 1) (gTrade a o (2 * (gBest a o - 1) + d) (itsOf a o (2 * (gBest a o - 1) + d))) := by
            show (if _ then _ else _) = _
            rw [if_neg (fun hh => by
              rcases hh with hh | hh | hh
              · exact c1 hh
              · exact c2 hh
              · rw [h1, tn, nI_clamp (by omega)] at hh; exact c3 hh), h6, tn, nI_clamp (show d < 2 ^ 31 by omega)]
          rw [hg, ← hih, hq]
          simp (disch := omega) only [l_X9_routes_11, b_X9_routes_11, r_left, hm, c2, h1, nI_eq, nI_leI, nI_ltI, c3, ht, hf, if_false, yl, cond_true, cond_false, Option.bind_some, ixn, nI_clamp, nI_add, pk_mul, pk_sub, pk_rem, pk_div, up2_s, up2_n, up1_s, up1_n, mdn, nar0, nar1, q0, q1, q2, q3, q4, q5, q6, q7, q8, q10, q15, q20, q25, q40, q50, q80, q100, q200, q256, q8192, q16384, q65536]
theorem r_routes {w : Nat} {a : AS} {o d n k e : Nat} (ho : o < 40) (hd : d < 2) (h23 : a 23 o = nI d) (h35 : a 0 35 = nI e) (he : e ≤ 100) (h : rgo a 1 n k) (hn : n + 1 ≤ 8191) (hk : k ≤ 131072) (hw : 200 < w) : f_X9_routes w a (nI o) = some (gRoutes a o, 0) := by
  obtain ⟨m, rfl⟩ : ∃ m, w = m + 1 := ⟨w - 1, by omega⟩
  have h1 := r_routesL (w := m + 1) (b := e) ho hd (by omega) hn hk 101 m a e h35 he (Nat.le_refl _) (by omega) (by omega) h23 h
  have hf := r_qfor (w := m + 1) ho hd h23 (by omega)
  unfold gRoutes
  rw [h35, tnI (show e < 2 ^ 31 by omega), ← h1]
  simp (disch := omega) only [f_X9_routes, hf, h35, yl, cond_true, cond_false, Option.bind_some, ixn, nI_clamp, nI_add, pk_mul, pk_sub, pk_rem, pk_div, up2_s, up2_n, up1_s, up1_n, mdn, nar0, nar1, q0, q1, q2, q3, q4, q5, q6, q7, q8, q10, q15, q20, q25, q40, q50, q80, q100, q200, q256, q8192, q16384, q65536]
