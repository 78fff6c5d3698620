/-! Busts and corrections: class and reference. -/
theorem RR_b27 {μ : MP} {ν : NC} {a : AS} {o : Nat} {v : Int32} (hR : RR μ ν a) (ho : o < tn (a 0 22)) : RR (uM μ 21 (2 * o + 1) 2 v) ν (up2 a 27 (40 + o) v) := by
  obtain ⟨h0, hF, h1, h2, h3, h4, h5, h6, h7, h8, h9⟩ := hR
  obtain ⟨y1, n, y2, y3, y4, y5, y6, y7, y8⟩ := h6
  refine ⟨h0, hF, h1, h2, h3, h4, h5, ⟨y1, n, y2, y3, y4, y5, y6, y7, fun o' ho' => ?_⟩, h7, h8, h9⟩
  obtain ⟨t1, t2, t3, t4, t5, t6, t7, t8, t9⟩ := y8 o' ho'
  refine ⟨t1, t2, t3, t4, t5, t6, t7, t8, fun z hz => ?_⟩
  obtain ⟨u1, u2, u3, u4⟩ := t9 z hz
  by_cases c : 2 * o' + z = 2 * o + 1
  · have c1 : z = 1 := by omega
    have c2 : o' = o := by omega
    subst c1; subst c2
    rw [uM_s, show 40 * 1 + o' = 40 + o' by omega] at *
    rw [up1_n _ _ (by decide), up1_n _ _ (by decide), up1_s, up1_n _ _ (by decide)]
    exact ⟨u1, u2, (up2_s _ _ _ _).symm, u4⟩
  · rw [uM_n _ _ _ (by omega)]
    exact ⟨u1, u2, u3.trans (up2_n _ _ (by omega)).symm, u4⟩
theorem RR_e5 {μ : MP} {ν : NC} {a : AS} {e : Nat} {v : Int32} (hR : RR μ ν a) (he : e < tn (a 0 35)) : RR (uM μ 23 e 5 v) ν (up2 a 43 (100 + e) v) := by
  obtain ⟨h0, hF, h1, h2, h3, h4, h5, h6, h7, h8, h9⟩ := hR
  obtain ⟨y1, n, y2, y3, y4, y5, y6, y7, y8⟩ := h7
  rw [y2, tnI (by omega)] at he
  refine ⟨h0, hF, h1, h2, h3, h4, h5, h6, ⟨y1, n, y2, y3, y4, y5, y6, y7, fun e' he' => ?_⟩, h8, h9⟩
  obtain ⟨t1, t2, t3, t4, t5, t6, t7, t8, t9, t10, t11, t12, t13⟩ := y8 e' he'
  have e43 : up2 a 43 (100 + e) v 43 e' = a 43 e' := up2_n _ _ (by omega)
  rw [e43]
  by_cases c : e' = e
  · subst c
    rw [uM_s]
    exact ⟨t1, t2, t3, t4, t5, t6, t7, (up1_s _ _ _).trans (up2_s _ _ _ _).symm, t9, t10, t11, t12, t13⟩
  · rw [uM_n _ _ _ (by omega)]
    exact ⟨t1, t2, t3, t4, t5, t6, t7, t8.trans (up2_n _ _ (by omega)).symm, t9, t10, t11, t12, t13⟩
theorem RR_e4 {μ : MP} {ν : NC} {a : AS} {e : Nat} {v : Int32} (hR : RR μ ν a) (he : e < tn (a 0 35)) : RR (uM μ 23 e 4 v) ν (up2 a 41 (100 + e) v) := by
  obtain ⟨h0, hF, h1, h2, h3, h4, h5, h6, h7, h8, h9⟩ := hR
  obtain ⟨y1, n, y2, y3, y4, y5, y6, y7, y8⟩ := h7
  rw [y2, tnI (by omega)] at he
  refine ⟨h0, hF, h1, h2, h3, h4, h5, h6, ⟨y1, n, y2, y3, y4, y5, y6, y7, fun e' he' => ?_⟩, h8, h9⟩
  obtain ⟨t1, t2, t3, t4, t5, t6, t7, t8, t9, t10, t11, t12, t13⟩ := y8 e' he'
  have e41 : up2 a 41 (100 + e) v 41 e' = a 41 e' := up2_n _ _ (by omega)
  rw [e41]
  by_cases c : e' = e
  · subst c
    rw [uM_s]
    exact ⟨t1, t2, t3, t4, t5, t6, (up1_s _ _ _).trans (up2_s _ _ _ _).symm, t8, t9, t10, t11, t12, t13⟩
  · rw [uM_n _ _ _ (by omega)]
    exact ⟨t1, t2, t3, t4, t5, t6, t7.trans (up2_n _ _ (by omega)).symm, t8, t9, t10, t11, t12, t13⟩
/-- an execution's rows -/
theorem exeOf {μ : MP} {ν : NC} {a : AS} {e : Nat} (hR : RR μ ν a) (he : e < tn (a 0 35)) : e < ν.2 23 ∧ e < 100 ∧ a 36 e = nI (μ.2 23 e 0) ∧ μ.2 23 e 0 < tn (a 0 22) ∧ μ.1 23 e 2 = a 39 e ∧ μ.1 23 e 4 = a 41 (100 + e) ∧ μ.1 23 e 5 = a 43 (100 + e) := by
  obtain ⟨y1, n, y2, y3, y4, y5, y6, y7, y8⟩ := hR.2.2.2.2.2.2.2.2.1
  rw [y2, tnI (by omega)] at he
  obtain ⟨t1, t2, t3, t4, t5, t6, t7, t8, -⟩ := y8 e he
  exact ⟨by omega, by omega, t2, t3, t5, t7, t8⟩
theorem k_findEX {w : Nat} {μ : MP} {ν : NC} {a : AS} {x : Int32} (hR : RR μ ν a) (h : x < 0 ∨ a 0 35 ≤ x) : f_X8_findExecution w μ ν x = some 0 := by
  have z0 := hR.1.1
  have z4 := hR.1.2.2.2.2.1
  unfold f_X8_findExecution
  by_cases c : x < 0
  · rw [if_pos c]; rfl
  · rw [if_neg c, ltt z0, ltt (show 5 < ν.2 4 by omega), hR.2.2.2.2.2.2.2.2.1.1, if_pos (h.resolve_left c)]; rfl
theorem k_reqE {w e : Nat} {μ : MP} {ν : NC} {a : AS} (hR : RR μ ν a) (he : e < tn (a 0 35)) : f_X8_requireExecution w μ ν (nI e) = some (0, e + 1) := by
  unfold f_X8_requireExecution
  rw [ltt hR.1.1, (k_findE (w := w) hR he).1]
  simp only [cond_true, Option.bind_some]
  rw [if_neg (Nat.succ_ne_zero e), Nat.add_sub_cancel]
theorem k_reqEX {w : Nat} {μ : MP} {ν : NC} {a : AS} {x : Int32} (hR : RR μ ν a) (h : x < 0 ∨ a 0 35 ≤ x) : f_X8_requireExecution w μ ν x = some (1, 0) := by
  unfold f_X8_requireExecution
  rw [ltt hR.1.1, k_findEX hR h]
  rfl
theorem k_unb {w e : Nat} {μ : MP} {ν : NC} {a : AS} (hR : RR μ ν a) (he : e < tn (a 0 35)) : f_X8_requireUnbusted w μ ν (e + 1) = some (if a 43 (100 + e) = nI 0 then 0 else 3, 0) := by
  obtain ⟨h1, h2, h3, h4, h5, h6, h7⟩ := exeOf hR he
  unfold f_X8_requireUnbusted
  rw [nzs, Nat.add_sub_cancel, ltt h1, h7]
  simp only [cond_true]
  by_cases c : a 43 (100 + e) = nI 0
  · rw [if_pos (show a 43 (100 + e) = (0 : Int32) from c), if_pos c]
  · rw [if_neg (show ¬ a 43 (100 + e) = (0 : Int32) from c), if_neg c]
/-- a bust, a correction -/
def gBust0 (a : AS) (e o : Nat) : AS := up2 (up2 (up2 (up2 a 0 0 (nI 0)) 43 (100 + e) (nI 1)) 27 (40 + o) (a 27 (40 + o) - a 39 e)) 28 (40 + o) (a 28 (40 + o) + a 39 e)
def gBust (a : AS) (e : Nat) : AS := gRep (gBust0 a e (tn (a 36 e))) (nI 5) (tn (a 36 e)) (nI e) (nI 0)
def gCorr (a : AS) (e : Nat) (x : Int32) : AS := gRep (up2 (up2 a 0 0 (nI 0)) 41 (100 + e) x) (nI 6) (tn (a 36 e)) (nI e) x
theorem k_bust {w e : Nat} {μ : MP} {ν : NC} {a : AS} (hR : RR μ ν a) (he : e < tn (a 0 35)) (hb : a 43 (100 + e) = nI 0) (hrm : roomS a 1 1) :
    ∃ (μ' : MP) (ν' : NC), f_X8_bust w μ ν (nI e) = some (0, ((μ', ν'), a 27 (40 + tn (a 36 e)) - a 39 e)) ∧ RR μ' ν' (gBust a e) ∧ ν'.2 20 = ν.2 20 ∧ bal ν' (gBust a e) = bal ν a ∧ ∀ c y : Int, RC c y ν → RC c y ν' := by
  obtain ⟨h1, h2, h3, ho, h5, h6, h7⟩ := exeOf hR he
  generalize hoo : μ.2 23 e 0 = o at h3 ho
  obtain ⟨o1, o2, o3, o4, o5, o6, o7, o8, o9, o10, o11⟩ := ordOf hR ho
  have u27 := (o11 1 (by decide)).2.2.1
  have u28 := (o11 1 (by decide)).2.2.2
  rw [show 40 * 1 + o = 40 + o by omega] at u27 u28
  have et : tn (a 36 e) = o := by rw [h3, tnI (by omega)]
  have hR1 := RR_e5 (v := nI 1) (RR_stop (v := nI 0) hR) he
  have hR2 := RR_b27 (v := a 27 (40 + o) - a 39 e) hR1 ho
  have hR3 : RR (uM (uM (uM μ 23 e 5 (nI 1)) 21 (2 * o + 1) 2 (a 27 (40 + o) - a 39 e)) 21 (2 * o + 1) 3 (a 28 (40 + o) + a 39 e)) ν (gBust0 a e o) := RR_b28 (v := a 28 (40 + o) + a 39 e) hR2 ho
  have hrm' : roomS (gBust0 a e o) 1 1 := roomS_of hrm rfl rfl
  have g4 : gBust0 a e o 4 = a 4 := rfl
  have h27 : gBust0 a e o 27 (40 + o) = a 27 (40 + o) - a 39 e := by unfold gBust0; rw [up2_n _ _ (by omega), up2_s]
  have ho3 : o < tn (gBust0 a e o 0 22) := ho
  generalize hm3 : uM (uM (uM μ 23 e 5 (nI 1)) 21 (2 * o + 1) 2 (a 27 (40 + o) - a 39 e)) 21 (2 * o + 1) 3 (a 28 (40 + o) + a 39 e) = m3 at hR3
  have o4' : m3.1 20 o 0 = nI o := (ordOf hR3 ho3).2.2.2.1
  have oo' : m3.2 23 e 0 = o := by rw [← hm3]; exact hoo
  unfold gBust
  rw [et]
  obtain ⟨μ', ν', t1, t2, t3, t4, t5, t6⟩ := k_sendL (w := w) (s := 1) (nb := 6) (fb0 := up1 (up1 (up1 (up1 (up1 (up1 (fun _ => (0 : Int32)) 0 (150 : Int32)) 1 (5 : Int32)) 2 (37 : Int32)) 3 (m3.1 20 o 0)) 4 (17 : Int32)) 5 (nI e)) (kd := nI 8) (o1 := nI 5) (o2 := nI o) (o3 := nI e) (o4 := nI 0) (RR_chg 1 6 hR3) (by decide) hrm' (by omega) (Or.inr (Or.inr (Or.inr (Or.inr (Or.inr ⟨rfl, rfl, rfl, rfl, o4', Or.inr (Or.inr (Or.inr (Or.inr (Or.inl ⟨rfl, rfl, rfl, rfl⟩))))⟩)))))
  refine ⟨μ', ν', ?_, t2, t4, (bal_send (ν := ν) (by decide) hrm' t3).trans (bal_of rfl g4), fun c y h => RC_le (t6 _ _ (hC8 _ 6 _ _ h)) (by omega) (by omega)⟩
  have ho4 : o < tn (gSends (gBust0 a e o) 1 (nI 8) (nI 5) (nI o) (nI e) (nI 0) 0 22) := by
    rw [gSends_k _ _ _ _ _ _ _ _ _ (by decide) (by decide) (by decide) (by decide) (by decide)]; exact ho
  obtain ⟨p1, p2, -, -, -, -, -, -, -, -, p11⟩ := ordOf t2 ho4
  have v27 := (p11 1 (by decide)).2.2.1
  rw [show 40 * 1 + o = 40 + o by omega, gSends_k _ _ _ _ _ _ _ _ _ (by decide) (by decide) (by decide) (by decide) (by decide), h27] at v27
  have z23 : (uM μ 23 e 5 (nI 1)).2 23 e 0 = o := hoo
  have w2 : (uM μ 23 e 5 (nI 1)).1 23 e 2 = a 39 e := by rw [uM_s]; exact h5
  have w27 : (uM μ 23 e 5 (nI 1)).1 21 (2 * o + 1) 2 = a 27 (40 + o) := by rw [uM_n _ _ _ (by omega)]; exact u27
  have w28 : (uM (uM μ 23 e 5 (nI 1)) 21 (2 * o + 1) 2 (a 27 (40 + o) - a 39 e)).1 21 (2 * o + 1) 3 = a 28 (40 + o) := by rw [uM_s, uM_n _ _ _ (by omega)]; exact u28
  have htb : f_X1_takeBack w (uM μ 23 e 5 (nI 1)) ν (2 * o + 1) (a 39 e) = some (m3, 0) := by
    unfold f_X1_takeBack
    rw [ltt o2]
    simp only [cond_true, yl]
    rw [w27, w28, hm3]
  have t1' : f_X8_send_L w m3 (chg ν 1 6) (1 : Int32) (8 : Int32) 6 (up1 (up1 (up1 (up1 (up1 (up1 (fun _ => (0 : Int32)) 0 (150 : Int32)) 1 (5 : Int32)) 2 (37 : Int32)) 3 (m3.1 20 o 0)) 4 (17 : Int32)) 5 (nI e)) = some ((μ', ν'), 0) := t1
  have h10 : b_X8_bust_10 w μ ν (nI e) (e + 1) = some ((μ', ν'), a 27 (40 + o) - a 39 e) := by
    unfold b_X8_bust_10
    rw [nzs, Nat.add_sub_cancel, ltt h1]
    simp only [cond_true, yl]
    rw [q1, z23, w2, ltt o1, ltt o2, htb]
    simp only [cond_true, Option.bind_some]
    unfold b_X8_bust_39
    rw [nzs, Nat.add_sub_cancel, show (chg ν 1 6).2 = ν.2 from rfl, ltt h1, oo', ltt o1, ltt hR.1.1, decide_eq_true (show 2 * o + 1 + 1 ≤ ν.2 21 by omega), ← q1, t1']
    simp only [cond_true, Option.bind_some]
    unfold b_X8_bust_76
    rw [nzs, Nat.add_sub_cancel, ltt p2, v27]
    rfl
  unfold f_X8_bust
  rw [ltt hR.1.1, k_reqE hR he]
  simp only [cond_true, Option.bind_some]
  rw [eqs, k_unb hR he, if_pos hb]
  simp only [cond_true, Option.bind_some]
  rw [eqs, h10]
  rfl
theorem k_bustX {w e : Nat} {μ : MP} {ν : NC} {a : AS} (hR : RR μ ν a) (he : e < tn (a 0 35)) (hb : ¬ a 43 (100 + e) = nI 0) : f_X8_bust w μ ν (nI e) = some (3, ((μ, ν), 0)) := by
  unfold f_X8_bust
  rw [ltt hR.1.1, k_reqE hR he]
  simp only [cond_true, Option.bind_some]
  rw [eqs, k_unb hR he, if_neg hb]
  rfl
theorem k_bustY {w : Nat} {μ : MP} {ν : NC} {a : AS} {x : Int32} (hR : RR μ ν a) (h : x < 0 ∨ a 0 35 ≤ x) : f_X8_bust w μ ν x = some (1, ((μ, ν), 0)) := by
  unfold f_X8_bust
  rw [ltt hR.1.1, k_reqEX hR h]
  rfl
theorem k_correct {w e : Nat} {μ : MP} {ν : NC} {a : AS} {x : Int32} (hR : RR μ ν a) (he : e < tn (a 0 35)) (hx : ¬ rgX x 1 100) (hb : a 43 (100 + e) = nI 0) (hrm : roomS a 1 1) :
    ∃ (μ' : MP) (ν' : NC), f_X8_correct w μ ν (nI e) x = some (0, ((μ', ν'), a 41 (100 + e))) ∧ RR μ' ν' (gCorr a e x) ∧ ν'.2 20 = ν.2 20 ∧ bal ν' (gCorr a e x) = bal ν a ∧ ∀ c y : Int, RC c y ν → RC c y ν' := by
  obtain ⟨h1, h2, h3, ho, h5, h6, h7⟩ := exeOf hR he
  generalize hoo : μ.2 23 e 0 = o at h3 ho
  obtain ⟨o1, o2, o3, o4, o5, o6, o7, o8, o9, o10, o11⟩ := ordOf hR ho
  have et : tn (a 36 e) = o := by rw [h3, tnI (by omega)]
  have hR3 := RR_e4 (v := x) (RR_stop (v := nI 0) hR) he
  have hrm' : roomS (up2 (up2 a 0 0 (nI 0)) 41 (100 + e) x) 1 1 := roomS_of hrm rfl rfl
  have o4' : (uM μ 23 e 4 x).1 20 o 0 = nI o := by rw [uM_n _ _ _ (by omega)]; exact o4
  unfold gCorr
  rw [et]
  obtain ⟨μ', ν', t1, t2, t3, t4, t5, t6⟩ := k_sendL (w := w) (s := 1) (nb := 8) (fb0 := up1 (up1 (up1 (up1 (up1 (up1 (up1 (up1 (fun _ => (0 : Int32)) 0 (150 : Int32)) 1 (6 : Int32)) 2 (37 : Int32)) 3 ((uM μ 23 e 4 x).1 20 o 0)) 4 (17 : Int32)) 5 (nI e)) 6 (31 : Int32)) 7 x) (kd := nI 8) (o1 := nI 6) (o2 := nI o) (o3 := nI e) (o4 := x) (RR_chg 1 8 hR3) (by decide) hrm' (by omega) (Or.inr (Or.inr (Or.inr (Or.inr (Or.inr ⟨rfl, rfl, rfl, rfl, o4', Or.inr (Or.inr (Or.inr (Or.inr (Or.inr ⟨rfl, rfl, rfl, rfl, rfl, rfl⟩))))⟩)))))
  refine ⟨μ', ν', ?_, t2, t4, (bal_send (ν := ν) (by decide) hrm' t3).trans (bal_of rfl rfl), fun c y h => RC_le (t6 _ _ (hC8 _ 8 _ _ h)) (by omega) (by omega)⟩
  have oo' : (uM μ 23 e 4 x).2 23 e 0 = o := hoo
  have t1' : f_X8_send_L w (uM μ 23 e 4 x) (chg ν 1 8) (1 : Int32) (8 : Int32) 8 (up1 (up1 (up1 (up1 (up1 (up1 (up1 (up1 (fun _ => (0 : Int32)) 0 (150 : Int32)) 1 (6 : Int32)) 2 (37 : Int32)) 3 ((uM μ 23 e 4 x).1 20 o 0)) 4 (17 : Int32)) 5 (nI e)) 6 (31 : Int32)) 7 x) = some ((μ', ν'), 0) := t1
  have h17 : b_X8_correct_17 w μ ν (nI e) x (e + 1) = some ((μ', ν'), a 41 (100 + e)) := by
    unfold b_X8_correct_17
    rw [nzs, Nat.add_sub_cancel, ltt h1, h6]
    simp only [cond_true, yl]
    unfold b_X8_correct_36
    rw [nzs, Nat.add_sub_cancel, show (chg ν 1 8).2 = ν.2 from rfl, ltt h1, oo', ltt o1, ltt hR.1.1, t1']
    rfl
  unfold f_X8_correct
  rw [ltt hR.1.1, k_reqE hR he]
  simp only [cond_true, Option.bind_some]
  rw [eqs, k_range, if_neg hx]
  simp only [cond_true, Option.bind_some]
  rw [eqs, k_unb hR he, if_pos hb]
  simp only [cond_true, Option.bind_some]
  rw [eqs, h17]
  rfl
def coWhy (a : AS) (e : Nat) (x : Int32) : Nat := if rgX x 1 100 then 2 else if a 43 (100 + e) = nI 0 then 0 else 3
theorem k_correctX {w e : Nat} {μ : MP} {ν : NC} {a : AS} {x : Int32} (hR : RR μ ν a) (he : e < tn (a 0 35)) (h : coWhy a e x ≠ 0) : f_X8_correct w μ ν (nI e) x = some (coWhy a e x, ((μ, ν), 0)) := by
  unfold coWhy at h ⊢
  unfold f_X8_correct
  rw [ltt hR.1.1, k_reqE hR he]
  simp only [cond_true, Option.bind_some]
  rw [eqs, k_range]
  simp only [cond_true, Option.bind_some]
  by_cases c : rgX x 1 100
  · rw [if_pos c, if_pos c]; rfl
  · rw [if_neg c, if_neg c, eqs, k_unb hR he]
    rw [if_neg c] at h
    simp only [cond_true, Option.bind_some]
    by_cases c1 : a 43 (100 + e) = nI 0
    · rw [if_pos c1] at h; exact absurd rfl h
    · rw [if_neg c1]; rfl
theorem k_correctY {w : Nat} {μ : MP} {ν : NC} {a : AS} {x y : Int32} (hR : RR μ ν a) (h : x < 0 ∨ a 0 35 ≤ x) : f_X8_correct w μ ν x y = some (1, ((μ, ν), 0)) := by
  unfold f_X8_correct
  rw [ltt hR.1.1, k_reqEX hR h]
  rfl
/-! the reference's side -/
theorem r_in0 {w j k : Nat} {a : AS} (hk : k ≤ 100) (hj : j < k) : f_X9_in w a (nI j) (nI 0) (nI k - nI 1) = some (nI 1) := by
  have c : ¬ (nI j < nI 0 ∨ nI k - nI 1 < nI j) := fun h => by
    rcases h with h | h
    · exact absurd h (nIb _ (by omega))
    · rw [pk_sub (by omega)] at h
      have := (nI_ltI (by omega) (by omega)).mp h; omega
  rw [r_in, if_neg c]
theorem r_in0X {w k : Nat} {a : AS} {x : Int32} (hk : k ≤ 100) (h : x < 0 ∨ nI k ≤ x) : f_X9_in w a x (nI 0) (nI k - nI 1) = some (nI 0) := by
  have hx : x < nI 0 ∨ nI k - nI 1 < x := by
    rcases h with h | h
    · exact Or.inl h
    · by_cases c : x < 0
      · exact Or.inl c
      · obtain ⟨j, hj, rfl⟩ := nI_of c
        have := (nI_leI (by omega) (by omega)).mp h
        by_cases ck : k = 0
        · subst ck
          refine Or.inr ?_
          have h1 : (nI 0 - nI 1 : Int32) < nI 0 := by decide
          exact Int32.lt_of_lt_of_le h1 ((nI_leI (by decide) hj).mpr (Nat.zero_le _))
        · rw [pk_sub (by omega)]
          exact Or.inr ((nI_ltI (by omega) hj).mpr (by omega))
  rw [r_in, if_pos hx]
theorem r_bust {w e k o n c : Nat} {a : AS} (e35 : a 0 35 = nI k) (hk : k ≤ 100) (he : e < k) (h36 : a 36 e = nI o) (ho : o < 40) (hb : a 43 (100 + e) = nI 0) (hr : rgo a 1 n c) (hn : n + 1 ≤ 8191) (hc : c ≤ 131072) : f_X9_bust w a (nI e) = some (gBust a e, a 27 (40 + o) - a 39 e) := by
  have et : tn (a 36 e) = o := by rw [h36, tnI (by omega)]
  have hrg : rgo (gBust0 a e o) 1 n c := rgo_of hr rfl rfl rfl
  have hrp := r_rep (w := w) (sort := nI 5) (o := o) (x := nI e) (y := nI 0) hrg hn hc
  have h27 : gRep (gBust0 a e o) (nI 5) o (nI e) (nI 0) 27 (40 + o) = a 27 (40 + o) - a 39 e := by
    unfold gRep
    rw [gSends_k _ _ _ _ _ _ _ _ _ (by decide) (by decide) (by decide) (by decide) (by decide)]
    unfold gBust0
    rw [up2_n _ _ (by omega), up2_s]
  have h36' : gBust0 a e o 36 e = nI o := h36
  unfold f_X9_bust gBust
  rw [et, e35, q0, q1, r_in0 hk he]
  simp only [Option.bind_some]
  rw [if_neg (show ¬ nI 1 = nI 0 by decide), q100, nI_add, ixn (by omega) (by omega), nI_clamp (by omega), hb, if_pos (rfl : nI 0 = nI 0)]
  simp only [cond_true]
  unfold b_X9_bust_36
  simp only [yl]
  rw [q0, q1, q40, q100, q5, if_pos (show up2 a 0 0 (nI 0) 0 0 ≤ nI 0 by rw [up2_s]; exact Int32.le_refl _), nI_add, ixn (show e < 100 by omega) (by omega), ixn (show 100 + e < 200 by omega) (by omega), nI_clamp (show e < 2 ^ 31 by omega), nI_clamp (show 100 + e < 2 ^ 31 by omega), nar1]
  have s36 : up2 a 0 0 (nI 0) 36 e = nI o := h36
  rw [s36, nI_add, ixn (show 40 + o < 80 by omega) (by omega), nI_clamp (show 40 + o < 2 ^ 31 by omega)]
  simp only [cond_true]
  have hA : up2 (up2 (up2 (up2 a 0 0 (nI 0)) 43 (100 + e) (nI 1)) 27 (40 + o) (up2 (up2 a 0 0 (nI 0)) 43 (100 + e) (nI 1) 27 (40 + o) - up2 (up2 a 0 0 (nI 0)) 43 (100 + e) (nI 1) 39 e)) 28 (40 + o) (up2 (up2 (up2 a 0 0 (nI 0)) 43 (100 + e) (nI 1)) 27 (40 + o) (up2 (up2 a 0 0 (nI 0)) 43 (100 + e) (nI 1) 27 (40 + o) - up2 (up2 a 0 0 (nI 0)) 43 (100 + e) (nI 1) 39 e) 28 (40 + o) + up2 (up2 (up2 a 0 0 (nI 0)) 43 (100 + e) (nI 1)) 27 (40 + o) (up2 (up2 a 0 0 (nI 0)) 43 (100 + e) (nI 1) 27 (40 + o) - up2 (up2 a 0 0 (nI 0)) 43 (100 + e) (nI 1) 39 e) 39 e) = gBust0 a e o := rfl
  rw [hA, h36', hrp]
  simp only [Option.bind_some]
  rw [h27]
theorem r_bustX {w e k : Nat} {a : AS} (e35 : a 0 35 = nI k) (hk : k ≤ 100) (he : e < k) (hb : ¬ a 43 (100 + e) = nI 0) : f_X9_bust w a (nI e) = some (up2 a 0 0 (nI 2), nI 0) := by
  unfold f_X9_bust
  rw [e35, q0, q1, r_in0 hk he]
  simp only [Option.bind_some]
  rw [if_neg (show ¬ nI 1 = nI 0 by decide), q100, nI_add, ixn (by omega) (by omega), nI_clamp (by omega), if_neg hb]
  simp only [cond_true]
  unfold b_X9_bust_36
  simp only [yl]
  rw [up2_s, if_neg (by decide)]
  rfl
theorem r_bustY {w k : Nat} {a : AS} {x : Int32} (e35 : a 0 35 = nI k) (hk : k ≤ 100) (h : x < 0 ∨ nI k ≤ x) : f_X9_bust w a x = some (up2 a 0 0 (nI 1), nI 0) := by
  unfold f_X9_bust
  rw [e35, q0, q1, r_in0X hk h]
  simp only [Option.bind_some]
  rw [if_pos trivial]
  unfold b_X9_bust_36
  simp only [yl]
  rw [up2_s, if_neg (by decide)]
  rfl
theorem r_correct {w e k o n c : Nat} {a : AS} {x : Int32} (e35 : a 0 35 = nI k) (hk : k ≤ 100) (he : e < k) (h36 : a 36 e = nI o) (ho : o < 40) (hx : ¬ rgX x 1 100) (hb : a 43 (100 + e) = nI 0) (hr : rgo a 1 n c) (hn : n + 1 ≤ 8191) (hc : c ≤ 131072) : f_X9_correct w a (nI e) x = some (gCorr a e x, a 41 (100 + e)) := by
  have et : tn (a 36 e) = o := by rw [h36, tnI (by omega)]
  have hrg : rgo (up2 (up2 a 0 0 (nI 0)) 41 (100 + e) x) 1 n c := rgo_of hr rfl rfl rfl
  have hrp := r_rep (w := w) (sort := nI 6) (o := o) (x := nI e) (y := x) hrg hn hc
  unfold f_X9_correct gCorr
  rw [et, e35, show (0 : Int32) = nI 0 from rfl, show (nI k - 1 : Int32) = nI k - nI 1 from rfl, r_in0 hk he]
  simp only [Option.bind_some]
  rw [if_neg (show ¬ nI 1 = nI 0 by decide), r_in, if_neg (show ¬ (x < (1 : Int32) ∨ (100 : Int32) < x) from hx)]
  simp only [Option.bind_some]
  rw [if_neg (show ¬ nI 1 = nI 0 by decide), q100, nI_add, ixn (by omega) (by omega), nI_clamp (by omega), hb, if_pos (rfl : nI 0 = nI 0)]
  simp only [cond_true]
  unfold b_X9_correct_50
  simp only [yl]
  rw [q0, q100, q6, if_pos (show up2 a 0 0 (nI 0) 0 0 ≤ nI 0 by rw [up2_s]; exact Int32.le_refl _), nI_add, ixn (show e < 100 by omega) (by omega), ixn (show 100 + e < 200 by omega) (by omega), nI_clamp (show e < 2 ^ 31 by omega), nI_clamp (show 100 + e < 2 ^ 31 by omega)]
  have s36 : up2 (up2 a 0 0 (nI 0)) 41 (100 + e) x 36 e = nI o := h36
  have s41 : up2 a 0 0 (nI 0) 41 (100 + e) = a 41 (100 + e) := rfl
  rw [s36, s41, hrp]
  rfl
theorem r_correctX {w e k : Nat} {a : AS} {x : Int32} (e35 : a 0 35 = nI k) (hk : k ≤ 100) (he : e < k) (h : coWhy a e x ≠ 0) : f_X9_correct w a (nI e) x = some (up2 a 0 0 (nI (coWhy a e x)), nI 0) := by
  have h50 : ∀ j : Nat, j = 2 ∨ j = 3 → b_X9_correct_50 w a (nI e) x (nI j) = some (up2 a 0 0 (nI j), nI 0) := fun j hj => by
    unfold b_X9_correct_50
    simp only [yl]
    rw [up2_s]
    rcases hj with rfl | rfl <;> rw [if_neg (by decide)] <;> rfl
  unfold coWhy at h ⊢
  unfold f_X9_correct
  rw [e35, show (0 : Int32) = nI 0 from rfl, show (nI k - 1 : Int32) = nI k - nI 1 from rfl, r_in0 hk he]
  simp only [Option.bind_some]
  rw [if_neg (show ¬ nI 1 = nI 0 by decide), r_in]
  simp only [Option.bind_some]
  by_cases c : rgX x 1 100
  · rw [if_pos (show (x < (1 : Int32) ∨ (100 : Int32) < x) from c), if_pos c, if_pos (rfl : nI 0 = nI 0)]
    exact h50 2 (Or.inl rfl)
  · rw [if_neg c] at h
    rw [if_neg (show ¬ (x < (1 : Int32) ∨ (100 : Int32) < x) from c), if_neg c, if_neg (show ¬ nI 1 = nI 0 by decide), q100, nI_add, ixn (by omega) (by omega), nI_clamp (by omega)]
    simp only [cond_true]
    by_cases c1 : a 43 (100 + e) = nI 0
    · rw [if_pos c1] at h; exact absurd rfl h
    · rw [if_neg c1, if_neg c1]
      exact h50 3 (Or.inr rfl)
theorem r_correctY {w k : Nat} {a : AS} {x y : Int32} (e35 : a 0 35 = nI k) (hk : k ≤ 100) (h : x < 0 ∨ nI k ≤ x) : f_X9_correct w a x y = some (up2 a 0 0 (nI 1), nI 0) := by
  unfold f_X9_correct
  rw [e35, show (0 : Int32) = nI 0 from rfl, show (nI k - 1 : Int32) = nI k - nI 1 from rfl, r_in0X hk h]
  simp only [Option.bind_some]
  rw [if_pos trivial]
  unfold b_X9_correct_50
  simp only [yl]
  rw [up2_s, if_neg (by decide)]
  rfl
