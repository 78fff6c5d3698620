/-! The trader reads a report: the class against the reference. -/
theorem R9_congr {m4 : Nat → Nat → Int32} {p5 : Nat → Nat → Nat} {l5 : Nat → Nat} {n20 : Nat} {x22 x32 y32 : Int32} {b23 b24 b25 b31 c24 c25 : Nat → Int32} (h : R9 m4 p5 l5 n20 x22 x32 b23 b24 b25 b31) (e24 : ∀ o, o < tn x22 → c24 (40 + o) = b24 (40 + o)) (e25 : ∀ o, o < tn x22 → c25 (40 + o) = b25 (40 + o)) : R9 m4 p5 l5 n20 x22 y32 b23 c24 c25 b31 := fun d hd => by
  obtain ⟨k, k1, k2, k3, k4, k5, k6, k7, k8⟩ := h d hd
  refine ⟨k, k1, k2, k3, k4, k5, fun i hi => ?_, fun o p1 p2 p3 => ?_, fun i j hij hj => ?_⟩
  · obtain ⟨o, p1, p2, p3, p4⟩ := k6 i hi
    exact ⟨o, p1, p2, by rw [e24 o p2]; exact p3, p4⟩
  · rw [e24 o p1] at p2
    exact k7 o p1 p2 p3
  · obtain ⟨o1, p1, p2, -⟩ := k6 i (by omega)
    obtain ⟨o2, q1, q2, -⟩ := k6 j hj
    have := k8 i j hij hj
    rw [p1, q1, Nat.add_sub_cancel, Nat.add_sub_cancel] at this ⊢
    unfold aheadR at this ⊢
    rw [e25 o1 p2, e25 o2 q2]
    exact this
theorem RR_t24 {μ : MP} {ν : NC} {a : AS} {o : Nat} {v : Int32} (hR : RR μ ν a) (ho : o < tn (a 0 22)) : RR (uM μ 20 o 4 v) ν (up2 a 24 o v) := by
  obtain ⟨o1, o2, o3, -⟩ := ordOf hR ho
  obtain ⟨h0, hF, h1, h2, h3, h4, h5, h6, h7, h8, h9⟩ := hR
  obtain ⟨y1, n, y2, y3, y4, y5, y6, y7, y8⟩ := h6
  refine ⟨h0, hF, h1, h2, h3, h4, h5, ⟨y1, n, y2, y3, y4, y5, y6, y7, fun o' ho' => ?_⟩, h7, h8, R9_congr h9 (fun o' _ => up2_n _ _ (by omega)) (fun _ _ => rfl)⟩
  obtain ⟨t1, t2, t3, t4, t5, t6, t7, t8, t9⟩ := y8 o' ho'
  have e40 : up2 a 24 o v 24 (40 + o') = a 24 (40 + o') := up2_n _ _ (by omega)
  rw [e40]
  by_cases c : o' = o
  · subst c
    rw [uM_s]
    exact ⟨t1, t2, t3, t4, (up1_s _ _ _).trans (up2_s _ _ _ _).symm, t6, t7, t8, t9⟩
  · rw [uM_n _ _ _ (by omega)]
    exact ⟨t1, t2, t3, t4, t5.trans (up2_n _ _ (by omega)).symm, t6, t7, t8, t9⟩
theorem RR_t30 {μ : MP} {ν : NC} {a : AS} {o : Nat} {v : Int32} (hR : RR μ ν a) (ho : o < tn (a 0 22)) : RR (uM μ 20 o 7 v) ν (up2 a 30 o v) := by
  obtain ⟨h0, hF, h1, h2, h3, h4, h5, h6, h7, h8, h9⟩ := hR
  obtain ⟨y1, n, y2, y3, y4, y5, y6, y7, y8⟩ := h6
  refine ⟨h0, hF, h1, h2, h3, h4, h5, ⟨y1, n, y2, y3, y4, y5, y6, y7, fun o' ho' => ?_⟩, h7, h8, h9⟩
  obtain ⟨t1, t2, t3, t4, t5, t6, t7, t8, t9⟩ := y8 o' ho'
  by_cases c : o' = o
  · subst c
    rw [uM_s]
    exact ⟨t1, t2, t3, t4, t5, t6, t7, (up1_s _ _ _).trans (up2_s _ _ _ _).symm, t9⟩
  · rw [uM_n _ _ _ (by omega)]
    exact ⟨t1, t2, t3, t4, t5, t6, t7, t8.trans (up2_n _ _ (by omega)).symm, t9⟩
theorem RR_tbk {μ : MP} {ν : NC} {a : AS} {o j : Nat} {v : Int32} (hR : RR μ ν a) (ho : o < tn (a 0 22)) (hj : j < 4) : RR (uM μ 21 (2 * o) j v) ν (up2 a (25 + j) o v) := by
  obtain ⟨o1, o2, o3, -⟩ := ordOf hR ho
  obtain ⟨h0, hF, h1, h2, h3, h4, h5, h6, h7, h8, h9⟩ := hR
  obtain ⟨y1, n, y2, y3, y4, y5, y6, y7, y8⟩ := h6
  have hb : ∀ o', o' < n → ∀ z : Nat, z < 2 → (uM μ 21 (2 * o) j v).1 21 (2 * o' + z) 0 = up2 a (25 + j) o v 25 (40 * z + o') ∧ (uM μ 21 (2 * o) j v).1 21 (2 * o' + z) 1 = up2 a (25 + j) o v 26 (40 * z + o') ∧ (uM μ 21 (2 * o) j v).1 21 (2 * o' + z) 2 = up2 a (25 + j) o v 27 (40 * z + o') ∧ (uM μ 21 (2 * o) j v).1 21 (2 * o' + z) 3 = up2 a (25 + j) o v 28 (40 * z + o') := fun o' ho' z hz => by
    obtain ⟨u1, u2, u3, u4⟩ := (y8 o' ho').2.2.2.2.2.2.2.2 z hz
    by_cases c : 2 * o' + z = 2 * o
    · obtain rfl : z = 0 := by omega
      obtain rfl : o' = o := by omega
      simp only [Nat.mul_zero, Nat.zero_add, Nat.add_zero] at u1 u2 u3 u4 ⊢
      rw [uM_s]
      rcases (show j = 0 ∨ j = 1 ∨ j = 2 ∨ j = 3 by omega) with rfl | rfl | rfl | rfl
      · exact ⟨(up1_s _ _ _).trans (up2_s _ _ _ _).symm, u2, u3, u4⟩
      · exact ⟨u1, (up1_s _ _ _).trans (up2_s _ _ _ _).symm, u3, u4⟩
      · exact ⟨u1, u2, (up1_s _ _ _).trans (up2_s _ _ _ _).symm, u4⟩
      · exact ⟨u1, u2, u3, (up1_s _ _ _).trans (up2_s _ _ _ _).symm⟩
    · rw [uM_n _ _ _ (by omega), up2_n _ _ (by omega), up2_n _ _ (by omega), up2_n _ _ (by omega), up2_n _ _ (by omega)]
      exact ⟨u1, u2, u3, u4⟩
  have h9' : ∀ o', up2 a (25 + j) o v 25 (40 + o') = a 25 (40 + o') := fun o' => up2_n _ _ (by omega)
  rcases (show j = 0 ∨ j = 1 ∨ j = 2 ∨ j = 3 by omega) with rfl | rfl | rfl | rfl
  all_goals
    refine ⟨h0, hF, h1, h2, h3, h4, h5, ⟨y1, n, y2, y3, y4, y5, y6, y7, fun o' ho' => ?_⟩, h7, h8, R9_congr h9 (fun _ _ => rfl) (fun o' _ => h9' o')⟩
    obtain ⟨t1, t2, t3, t4, t5, t6, t7, t8, t9⟩ := y8 o' ho'
    exact ⟨t1, t2, t3, t4, t5, t6, t7, t8, hb o' ho'⟩
theorem RR_exe {μ : MP} {ν : NC} {a : AS} {e j : Nat} {v : Int32} (hR : RR μ ν a) (he : e < tn (a 0 35)) (hj : j < 3) : RR (uM μ 23 e (6 + j) v) ν (up2 a (if j = 0 then 42 else if j = 1 then 41 else 43) e v) := by
  obtain ⟨h0, hF, h1, h2, h3, h4, h5, h6, h7, h8, h9⟩ := hR
  obtain ⟨y1, n, y2, y3, y4, y5, y6, y7, y8⟩ := h7
  rw [y2, tnI (by omega)] at he
  have hb : ∀ (k : Nat) e', e' < n → up2 a k e v 41 (100 + e') = a 41 (100 + e') ∧ up2 a k e v 42 (100 + e') = a 42 (100 + e') ∧ up2 a k e v 43 (100 + e') = a 43 (100 + e') := fun k e' he' => ⟨up2_n _ _ (by omega), up2_n _ _ (by omega), up2_n _ _ (by omega)⟩
  rcases (show j = 0 ∨ j = 1 ∨ j = 2 by omega) with rfl | rfl | rfl
  all_goals
    refine ⟨h0, hF, h1, h2, h3, h4, h5, h6, ⟨y1, n, y2, y3, y4, y5, y6, y7, fun e' he' => ?_⟩, h8, h9⟩
    obtain ⟨t1, t2, t3, t4, t5, t6, t7, t8, t9, t10, t11, t12, t13⟩ := y8 e' he'
    obtain ⟨b1, b2, b3⟩ := hb (if (0 : Nat) = 0 then 42 else 0) e' he'
    by_cases c : e' = e
    · subst c
      rw [uM_s]
      first
      | exact ⟨t1, t2, t3, t4, t5, t6, t7, t8, (up1_s _ _ _).trans (up2_s _ _ _ _).symm, t10, t11, (hb _ e' he').2.1.trans t12, t13⟩
      | exact ⟨t1, t2, t3, t4, t5, t6, t7.trans (hb _ e' he').1.symm, t8, t9, (up1_s _ _ _).trans (up2_s _ _ _ _).symm, t11, t12, t13⟩
      | exact ⟨t1, t2, t3, t4, t5, t6, t7, t8.trans (hb _ e' he').2.2.symm, t9, t10, (up1_s _ _ _).trans (up2_s _ _ _ _).symm, t12, t13⟩
    · rw [uM_n _ _ _ (by omega)]
      first
      | exact ⟨t1, t2, t3, t4, t5, t6, t7, t8, t9.trans (up2_n _ _ (by omega)).symm, t10, t11, (hb _ e' he').2.1.trans t12, t13⟩
      | exact ⟨t1, t2, t3, t4, t5, t6, t7.trans (hb _ e' he').1.symm, t8, t9, t10.trans (up2_n _ _ (by omega)).symm, t11, t12, t13⟩
      | exact ⟨t1, t2, t3, t4, t5, t6, t7, t8.trans (hb _ e' he').2.2.symm, t9, t10, t11.trans (up2_n _ _ (by omega)).symm, t12, t13⟩
/-- a place's value -/
theorem k_place {w m x : Nat} {μ : MP} {ν : NC} (hm : m < ν.2 6) (h68 : ν.2 6 = ν.2 8) (hL : 2 * x + 1 < ν.1 8 m) (hL2 : ν.1 8 m ≤ 1000) : f_X3_valueOfPlace w μ ν m (nI x) = some (μ.1 8 m (2 * x + 1)) := by
  have hh : f_X3_hasPlace w μ ν m (nI x) = some (nI 1) := by
    unfold f_X3_hasPlace
    rw [if_neg (show ¬ nI x < (0 : Int32) from nIb _ (by omega)), ltt hm, ltt (show m < ν.2 8 by omega), q2, pk_div (by omega) (by omega) (by omega)]
    simp only [cond_true]
    rw [if_neg (fun h => by have := (nI_leI (by omega) (by omega)).mp h; omega)]
    rfl
  unfold f_X3_valueOfPlace
  rw [hh, ltt hm, ltt (show m < ν.2 8 by omega), q0, q1, q2, pk_mul, nI_add, ixn hL (by omega), nI_clamp (by omega)]
  simp only [cond_true, Option.bind_some]
  rw [if_neg (show ¬ nI 1 = nI 0 by decide)]
theorem k_findE {w e : Nat} {μ : MP} {ν : NC} {a : AS} (hR : RR μ ν a) (he : e < tn (a 0 35)) : f_X8_findExecution w μ ν (nI e) = some (e + 1) ∧ e < ν.2 23 ∧ e < 100 := by
  obtain ⟨h0, -, -, -, -, -, -, -, h7, -⟩ := hR
  obtain ⟨y1, k, y2, y3, y4, y5, y6, y7, y8⟩ := h7
  rw [y2, tnI (by omega)] at he
  obtain ⟨x1, -⟩ := y8 e he
  have hg := k_get (μ := μ) (ν := ν) (i := 5) (n := k) (x := e) (p := e) h0 (by decide) (y1.trans y2) (by omega) y5 y6 he x1 (by show e < ν.2 23; omega)
  have c1 : ¬ nI e < nI 0 := fun h => by have := (nI_ltI (by omega) (by decide)).mp h; omega
  have c2 : ¬ nI k ≤ nI e := fun h => by have := (nI_leI (by omega) (by omega)).mp h; omega
  refine ⟨?_, by omega, by omega⟩
  unfold f_X8_findExecution
  have z4 := h0.2.2.2.2.1
  rw [q0, if_neg c1, ltt h0.1, ltt (show 5 < ν.2 4 by omega), y1, y2]
  simp only [cond_true]
  rw [if_neg c2, hg]
  simp only [Option.bind_some, show eK 5 5 = 23 from by decide, eqs, cond_true, ltt (show e < ν.2 23 by omega)]
theorem k_endReq {w o σ : Nat} {μ : MP} {ν : NC} {a : AS} (hR : RR μ ν a) (ho : o < tn (a 0 22)) (hσ : σ = 2 ∨ σ = 3 ∨ σ = 4) : ∃ μ' : MP, f_X4_endRequest w μ ν o = some (μ', 0) ∧ RR μ' ν (gEndReq a σ o) := by
  obtain ⟨o1, o2, o3, o4, o5, o6, o7, o8, o9, o10, o11⟩ := ordOf hR ho
  unfold f_X4_endRequest gEndReq
  rw [ltt o1, o10]
  simp only [cond_true]
  by_cases c : a 30 o ≤ nI 0
  · rw [if_pos (show a 30 o ≤ (0 : Int32) from c), if_neg (fun h => h.2 c), show a 30 o - nI 0 = a 30 o from Int32.sub_zero _, up2_self]
    exact ⟨μ, rfl, hR⟩
  · rw [if_neg (show ¬ a 30 o ≤ (0 : Int32) from c), if_pos ⟨hσ, c⟩]
    exact ⟨_, rfl, RR_t30 hR ho⟩
theorem gEndReq_id {a : AS} {σ o : Nat} (h : ¬ (σ = 2 ∨ σ = 3 ∨ σ = 4)) : gEndReq a σ o = a := by
  unfold gEndReq
  rw [if_neg (fun h' => h h'.1), show a 30 o - nI 0 = a 30 o from Int32.sub_zero _, up2_self]
/-- what reading a report wants -/
def lrnOk (a : AS) (q : Nat) : Prop := ∃ σ o : Nat, a 14 q = nI σ ∧ σ ≤ 6 ∧ a 15 q = nI o ∧ o < tn (a 0 22) ∧ (σ = 1 → ∃ f t : Nat, a 16 q = nI f ∧ a 17 q = nI t ∧ f + t ≤ tn (a 0 35)) ∧ (σ = 5 ∨ σ = 6 → ∃ e : Nat, a 16 q = nI e ∧ e < tn (a 0 35))
theorem body8 {b11 b14 b15 b16 b17 b37 b39 b40 fb : Nat → Int32} {q nb : Nat} (h : bodyR b11 b14 b15 b16 b17 b37 b39 b40 q nb fb) (e : b11 q = nI 8) : fb 0 = nI 150 ∧ fb 1 = b14 q ∧ fb 2 = nI 37 ∧ fb 3 = b15 q ∧ (
    ((b14 q = nI 0 ∨ b14 q = nI 4) ∧ nb = 4) ∨
    (b14 q = nI 1 ∧ ∃ f t : Nat, b16 q = nI f ∧ b17 q = nI t ∧ f + t ≤ 100 ∧ nb = 6 + 8 * t ∧ fb 4 = nI 382 ∧ fb 5 = nI t ∧ ∀ i, i < t → fb (6 + 8 * i) = nI 17 ∧ fb (7 + 8 * i) = nI (f + i) ∧ fb (8 + 8 * i) = nI 30 ∧ fb (9 + 8 * i) = b37 (f + i) ∧ fb (10 + 8 * i) = nI 31 ∧ fb (11 + 8 * i) = b40 (f + i) ∧ fb (12 + 8 * i) = nI 32 ∧ fb (13 + 8 * i) = b39 (f + i)) ∨
    (b14 q = nI 2 ∧ nb = 6 ∧ fb 4 = nI 32 ∧ fb 5 = b16 q) ∨
    (b14 q = nI 3 ∧ nb = 8 ∧ fb 4 = nI 44 ∧ fb 5 = b16 q ∧ fb 6 = nI 38 ∧ fb 7 = b17 q) ∨
    (b14 q = nI 5 ∧ nb = 6 ∧ fb 4 = nI 17 ∧ fb 5 = b16 q) ∨
    (b14 q = nI 6 ∧ nb = 8 ∧ fb 4 = nI 17 ∧ fb 5 = b16 q ∧ fb 6 = nI 31 ∧ fb 7 = b17 q)) := by
  rcases h with ⟨h | h | h, -⟩ | ⟨h, -⟩ | ⟨h, -⟩ | ⟨h, -⟩ | ⟨h, -⟩ | ⟨-, h⟩
  all_goals first | exact h | exact absurd (h.symm.trans e) (by decide)
theorem k_known {w m o f t : Nat} {μ0 : MP} {ν : NC} {fb : Nat → Int32} {b39 b40 : Nat → Int32} {kd nu : Int32} (hm : m < ν.2 6) (h68 : ν.2 6 = ν.2 8) (hL : ν.1 8 m = 6 + 8 * t + 6) (hft : f + t ≤ 100) (hrow : ∀ j, j < 6 + 8 * t + 6 → μ0.1 8 m j = msgF kd nu (6 + 8 * t) fb j) (hfb : ∀ i, i < t → fb (7 + 8 * i) = nI (f + i) ∧ fb (11 + 8 * i) = b40 (f + i) ∧ fb (13 + 8 * i) = b39 (f + i)) : ∀ (g x i : Nat) (μ : MP) (a : AS), i + g = t → RR μ ν a → o < tn (a 0 22) → f + t ≤ tn (a 0 35) → μ.1 8 = μ0.1 8 → a 39 = b39 → a 40 = b40 → ∃ μ' : MP, l_X8_traderReadsFilled_11 w ν (g + 1 + x) μ (o + 1) (m + 1) (nI t) (nI i) = some (μ', 0) ∧ RR μ' ν (gKnows o g (f + i) a) := by
  intro g
  induction g with
  | zero =>
    intro x i μ a hi hR ho hk h8 h39 h40
    refine ⟨μ, ?_, hR⟩
    rw [show 0 + 1 + x = x + 1 by omega]
    show b_X8_traderReadsFilled_11 _ w μ ν _ _ _ _ = _
    unfold b_X8_traderReadsFilled_11
    rw [if_pos ((nI_leI (by omega) (by omega)).mpr (by omega))]
  | succ g ih =>
    intro x i μ a hi hR ho hk h8 h39 h40
    obtain ⟨o1, o2, o3, o4, o5, o6, o7, o8, o9, o10, o11⟩ := ordOf hR ho
    obtain ⟨u1, u2, u3, u4⟩ := o11 0 (by decide)
    simp only [Nat.mul_zero, Nat.zero_add, Nat.add_zero] at u3
    obtain ⟨f1, f2, f3⟩ := hfb i (by omega)
    have hrw : ∀ j, j < 6 + 8 * t → μ.1 8 m (4 + j) = fb j := fun j hj => by
      rw [h8, hrow _ (by omega), mF_b _ _ _ _ _ hj]
    have hpl : ∀ (μ1 : MP) (y : Nat), μ1.1 8 = μ.1 8 → 2 * y + 1 < 4 + (6 + 8 * t) → 5 ≤ y → f_X3_valueOfPlace w μ1 ν m (nI y) = some (fb (2 * y + 1 - 4)) := fun μ1 y e hy h5 => by
      rw [k_place hm h68 (by omega) (by omega), e, ← hrw (2 * y + 1 - 4) (by omega), show 4 + (2 * y + 1 - 4) = 2 * y + 1 by omega]
    generalize hm11 : uM μ 21 (2 * o) 2 (a 27 o + b39 (f + i)) = m11
    have r11 : m11.1 8 = μ.1 8 := by rw [← hm11]; funext j; exact uM_n _ _ _ (by omega)
    have hR11 : RR m11 ν (up2 a 27 o (a 27 o + b39 (f + i))) := by rw [← hm11]; exact RR_tbk (j := 2) hR ho (by decide)
    generalize hm17 : uM m11 23 (f + i) 6 (1 : Int32) = m17
    have r17 : m17.1 8 = μ.1 8 := by rw [← r11, ← hm17]; funext j; exact uM_n _ _ _ (by omega)
    have ek : ∀ k i', k ≠ 27 → up2 a 27 o (a 27 o + b39 (f + i)) k i' = a k i' := fun k i' hk => up2_n _ _ (by omega)
    have hR17 : RR m17 ν (up2 (up2 a 27 o (a 27 o + b39 (f + i))) 42 (f + i) (nI 1)) := by rw [← hm17]; exact RR_exe (j := 0) hR11 (by rw [ek 0 35 (by decide)]; omega) (by decide)
    generalize hm19 : uM m17 23 (f + i) 7 (b40 (f + i)) = m19
    have r19 : m19.1 8 = μ0.1 8 := by rw [← h8, ← r17, ← hm19]; funext j; exact uM_n _ _ _ (by omega)
    have hR19 : RR m19 ν (gKnow1 a o (f + i)) := by
      have := RR_exe (j := 1) (e := f + i) (v := b40 (f + i)) hR17 (by rw [up2_n _ _ (by omega), ek 0 35 (by decide)]; omega) (by decide)
      rw [show 6 + 1 = 7 from rfl, hm19] at this
      have hg : gKnow1 a o (f + i) = up2 (up2 (up2 a 27 o (a 27 o + b39 (f + i))) 42 (f + i) (nI 1)) 41 (f + i) (b40 (f + i)) := by
        unfold gKnow1
        rw [h39, h40]
        funext k j
        by_cases c : k = 27 ∧ j = o
        · obtain ⟨rfl, rfl⟩ := c
          rw [up2_s, up2_n _ _ (by omega), up2_n _ _ (by omega), up2_s]
        · rw [up2_n _ _ c]
          by_cases c1 : k = 41 ∧ j = f + i
          · obtain ⟨rfl, rfl⟩ := c1
            rw [up2_s, up2_s]
          · rw [up2_n _ _ c1, up2_n _ _ c1]
            by_cases c2 : k = 42 ∧ j = f + i
            · obtain ⟨rfl, rfl⟩ := c2
              rw [up2_s, up2_s]
            · rw [up2_n _ _ c2, up2_n _ _ c2, up2_n _ _ c]
      rw [hg]
      exact this
    obtain ⟨h14, h141, -⟩ := k_findE (w := w) (e := f + i) hR11 (by rw [ek 0 35 (by decide)]; omega)
    obtain ⟨μ', e1, e2⟩ := ih x (i + 1) m19 (gKnow1 a o (f + i)) (by omega) hR19 (by unfold gKnow1; rw [up2_n _ _ (by omega), up2_n _ _ (by omega), up2_n _ _ (by omega)]; exact ho) (by unfold gKnow1; rw [up2_n _ _ (by omega), up2_n _ _ (by omega), up2_n _ _ (by omega)]; exact hk) r19 (by unfold gKnow1; rw [← h39]; funext j; rw [up2_n _ _ (by omega), up2_n _ _ (by omega), up2_n _ _ (by omega)]) (by unfold gKnow1; rw [← h40]; funext j; rw [up2_n _ _ (by omega), up2_n _ _ (by omega), up2_n _ _ (by omega)])
    refine ⟨μ', ?_, e2⟩
    rw [← e1, show g + 1 + 1 + x = (g + 1 + x) + 1 by omega]
    show b_X8_traderReadsFilled_11 _ w μ ν _ _ _ _ = _
    unfold b_X8_traderReadsFilled_11
    rw [if_neg (fun h => by have := (nI_leI (by omega) (by omega)).mp h; omega), q5, q4, q3, q2, q1, pk_mul, nI_add]
    simp only [yl, nI_add, nzs, Nat.add_sub_cancel, ltt o1, ltt (show 2 * o < ν.2 21 by omega), ltt hm, cond_true]
    rw [hpl μ (5 + 4 * i + 3) rfl (by omega) (by omega), show 2 * (5 + 4 * i + 3) + 1 - 4 = 13 + 8 * i by omega, f3]
    simp only [Option.bind_some]
    rw [u3, hm11, hpl m11 (5 + 4 * i) r11 (by omega) (by omega), show 2 * (5 + 4 * i) + 1 - 4 = 7 + 8 * i by omega, f1]
    simp only [Option.bind_some]
    rw [ltt hR.1.1, h14]
    simp only [Option.bind_some, cond_true]
    rw [if_neg (Nat.succ_ne_zero _), Nat.add_sub_cancel, ltt h141]
    simp only [cond_true]
    rw [show nI 1 = (1 : Int32) from rfl, hm17, hpl m17 (5 + 4 * i + 2) r17 (by omega) (by omega), show 2 * (5 + 4 * i + 2) + 1 - 4 = 11 + 8 * i by omega, f2]
    simp only [Option.bind_some]
    rw [hm19]
    unfold b_X8_traderReadsFilled_81
    simp only [yl]
    rw [q1, nI_add]
theorem gLrn_4 (a : AS) (σ q o : Nat) : gLrn a σ q o 4 = a 4 := by
  unfold gLrn
  have hk : ∀ (d e : Nat) (a : AS), gKnows o d e a 4 = a 4 := by
    intro d
    induction d with
    | zero => intro e a; rfl
    | succ d ih =>
      intro e a
      show gKnows o d (e + 1) (gKnow1 a o e) 4 = _
      rw [ih]
      unfold gKnow1
      funext j
      rw [up2_n _ _ (by omega), up2_n _ _ (by omega), up2_n _ _ (by omega)]
  repeat' split
  all_goals first | rfl | exact hk _ _ _ | (funext j; simp (disch := omega) only [up2_n])
theorem gLearns_4 (a : AS) (q : Nat) : gLearns a q 4 = a 4 := by
  unfold gLearns gEndReq
  funext j
  rw [up2_n _ _ (by omega), gLrn_4]
theorem k_reads {w m q nu : Nat} {μ : MP} {ν : NC} {a : AS} (hR : RR μ ν a) (hm : m < ν.2 6) (hq : msgRel (μ.1 6 m) (μ.1 8 m) (ν.1 8 m) (a 11) (a 12) (a 13) (a 14) (a 15) (a 16) (a 17) (a 37) (a 39) (a 40) q nu) (e11 : a 11 q = nI 8) (hV : lrnOk a q) (hw : 600 < w) :
    ∃ μ' : MP, f_X8_traderReads w μ ν (m + 1) = some (μ', 0) ∧ RR μ' ν (gLearns a q) := by
  obtain ⟨σ, o, e14, hσ, e15, ho, hf1, he1⟩ := hV
  obtain ⟨-, -, -, nb, fb, L1, L2, L3, L4⟩ := hq
  obtain ⟨b0, b1, b2, b3, b4⟩ := body8 L4 e11
  have hnb : 4 ≤ nb := by
    rcases b4 with ⟨-, h⟩ | ⟨-, f, t, -, -, -, h, -⟩ | ⟨-, h, -⟩ | ⟨-, h, -⟩ | ⟨-, h, -⟩ | ⟨-, h, -⟩ <;> omega
  obtain ⟨o1, o2, o3, o4, o5, o6, o7, o8, o9, o10, o11⟩ := ordOf hR ho
  obtain ⟨u1, u2, u3, u4⟩ := o11 0 (by decide)
  simp only [Nat.mul_zero, Nat.zero_add, Nat.add_zero] at u1 u2 u3 u4
  have z68 := hR.1.2.2.2.2.2.2.2.2.2.2.2.2.2.2.2.2.1
  have hv0 := k_fld (w := w) (i := 1) (tag := 37) hm z68 L1 L2 L3 (by omega) b2 (by decide) (fun i' h => by
    obtain rfl : i' = 0 := by omega
    rw [show fb (2 * 0) = nI 150 from b0]; decide) hw
  have hv1 := k_fld (w := w) (i := 0) (tag := 150) hm z68 L1 L2 L3 (by omega) b0 (by decide) (fun i' h => by omega) hw
  rw [show fb (2 * 1 + 1) = nI o from b3.trans e15] at hv0
  rw [show fb (2 * 0 + 1) = nI σ from b1.trans e14] at hv1
  obtain ⟨hfo, -, -⟩ := k_findO (w := w) hR ho
  have t14 : tn (a 14 q) = σ := by rw [e14, tnI (by omega)]
  have t15 : tn (a 15 q) = o := by rw [e15, tnI (by omega)]
  have hσn : ∀ k : Nat, k ≤ 6 → (nI σ = nI k ↔ σ = k) := fun k hk => nI_eq (by omega) (by omega)
  -- a field at place 2 (tag at 4) or place 3 (tag at 6)
  have hfld : ∀ (μ1 : MP) (i tag : Nat), μ1.1 8 = μ.1 8 → 2 ≤ i → 2 * i + 1 < nb → fb (2 * i) = nI tag → (tag ≠ 35 ∧ tag ≠ 34 ∧ tag < 1000) → tag ≠ 150 → tag ≠ 37 → (∀ i', 2 ≤ i' → i' < i → fb (2 * i') ≠ nI tag) → f_X3_valueOf w μ1 ν m (nI tag) = some (fb (2 * i + 1)) := fun μ1 i tag e8 h2 hi ht htg hn1 hn2 hne => k_fld hm z68 L1 L2 (fun j hj => by rw [e8]; exact L3 j hj) hi ht htg (fun i' h => by
    rcases (show i' = 0 ∨ i' = 1 ∨ 2 ≤ i' by omega) with rfl | rfl | h2'
    · rw [show fb (2 * 0) = nI 150 from b0]; exact nIne (by omega) (by omega) (by omega)
    · rw [show fb (2 * 1) = nI 37 from b2]; exact nIne (by omega) (by omega) (by omega)
    · exact hne i' h2' h) hw
  unfold f_X8_traderReads gLearns
  rw [t14, t15, nzs, Nat.add_sub_cancel, ltt hm, show (37 : Int32) = nI 37 from rfl, hv0]
  simp only [cond_true, Option.bind_some]
  rw [ltt hR.1.1, hfo]
  simp only [cond_true, Option.bind_some]
  rw [if_neg (Nat.succ_ne_zero o), show (150 : Int32) = nI 150 from rfl, hv1, Nat.add_sub_cancel]
  simp only [Option.bind_some]
  rw [ltt o1, ltt (show 2 * o < ν.2 21 by omega)]
  simp only [cond_true, yl]
  rw [show (0 : Int32) = nI 0 from rfl, show (1 : Int32) = nI 1 from rfl, show (2 : Int32) = nI 2 from rfl, show (3 : Int32) = nI 3 from rfl, show (4 : Int32) = nI 4 from rfl, show (5 : Int32) = nI 5 from rfl, show (6 : Int32) = nI 6 from rfl, show (17 : Int32) = nI 17 from rfl, show (32 : Int32) = nI 32 from rfl, show (44 : Int32) = nI 44 from rfl, show (38 : Int32) = nI 38 from rfl]
  rcases (show σ = 0 ∨ σ = 1 ∨ σ = 2 ∨ σ = 3 ∨ σ = 4 ∨ σ = 5 ∨ σ = 6 by omega) with rfl | rfl | rfl | rfl | rfl | rfl | rfl
  · rw [if_pos (rfl : nI 0 = nI 0), gEndReq_id (by omega)]
    refine ⟨_, rfl, ?_⟩
    unfold gLrn
    rw [if_pos rfl]
    exact RR_t24 hR ho
  · rw [if_neg (show ¬ nI 1 = nI 0 by decide), if_pos (rfl : nI 1 = nI 1), gEndReq_id (by omega)]
    have hb : a 14 q = nI 1 ∧ ∃ f t : Nat, a 16 q = nI f ∧ a 17 q = nI t ∧ f + t ≤ 100 ∧ nb = 6 + 8 * t ∧ fb 4 = nI 382 ∧ fb 5 = nI t ∧ ∀ i, i < t → fb (6 + 8 * i) = nI 17 ∧ fb (7 + 8 * i) = nI (f + i) ∧ fb (8 + 8 * i) = nI 30 ∧ fb (9 + 8 * i) = a 37 (f + i) ∧ fb (10 + 8 * i) = nI 31 ∧ fb (11 + 8 * i) = a 40 (f + i) ∧ fb (12 + 8 * i) = nI 32 ∧ fb (13 + 8 * i) = a 39 (f + i) := by
      rcases b4 with ⟨h | h, -⟩ | h | ⟨h, -⟩ | ⟨h, -⟩ | ⟨h, -⟩ | ⟨h, -⟩
      all_goals first | exact h | exact absurd (h.symm.trans e14) (by decide)
    obtain ⟨-, f, t, c1, c2, c3, c4, c5, c6, c7⟩ := hb
    subst c4
    obtain ⟨f', t', d1, d2, d3⟩ := hf1 rfl
    have hk35 : tn (a 0 35) ≤ 100 := by
      obtain ⟨-, k, y2, y3, -⟩ := hR.2.2.2.2.2.2.2.2.1
      rw [y2, tnI (by omega)]; exact y3
    have hff : f' = f := (nI_eq (by omega) (by omega)).mp (d1.symm.trans c1)
    have htt : t' = t := (nI_eq (by omega) (by omega)).mp (d2.symm.trans c2)
    subst hff; subst htt
    have hv2 := hfld μ 2 382 rfl (Nat.le_refl _) (by omega) c5 (by decide) (by decide) (by decide) (fun i' h1 h2 => by omega)
    rw [show fb (2 * 2 + 1) = nI t' from c6] at hv2
    obtain ⟨x, hx⟩ : ∃ x, w = t' + 1 + x := ⟨w - t' - 1, by omega⟩
    obtain ⟨μ', k1, k2⟩ := k_known (w := w) (o := o) (b39 := a 39) (b40 := a 40) hm z68 L1 c3 L3 (fun i hi => ⟨(c7 i hi).2.1, (c7 i hi).2.2.2.2.2.1, (c7 i hi).2.2.2.2.2.2.2⟩) t' x 0 μ a (by omega) hR ho d3 rfl rfl rfl
    refine ⟨μ', ?_, ?_⟩
    · unfold f_X8_traderReadsFilled
      rw [nzs, Nat.add_sub_cancel, ltt hm, show (382 : Int32) = nI 382 from rfl, hv2]
      simp only [cond_true, Option.bind_some]
      rw [← hx] at k1
      rw [show (0 : Int32) = nI 0 from rfl, k1]
      rfl
    · unfold gLrn
      rw [if_neg (by decide), if_pos rfl, c1, c2, tnI (by omega), tnI (by omega)]
      exact k2
  · rw [if_neg (show ¬ nI 2 = nI 0 by decide), if_neg (show ¬ nI 2 = nI 1 by decide), if_pos (rfl : nI 2 = nI 2)]
    have hb : a 14 q = nI 2 ∧ nb = 6 ∧ fb 4 = nI 32 ∧ fb 5 = a 16 q := by
      rcases b4 with ⟨h | h, -⟩ | ⟨h, -⟩ | h | ⟨h, -⟩ | ⟨h, -⟩ | ⟨h, -⟩
      all_goals first | exact h | exact absurd (h.symm.trans e14) (by decide)
    obtain ⟨-, c2, c3, c4⟩ := hb
    have hv2 := hfld μ 2 32 rfl (Nat.le_refl _) (by omega) c3 (by decide) (by decide) (by decide) (fun i' h1 h2 => by omega)
    rw [show fb (2 * 2 + 1) = a 16 q from c4] at hv2
    rw [hv2]
    simp only [Option.bind_some]
    rw [u4]
    obtain ⟨μ', k1, k2⟩ := k_endReq (w := w) (σ := 2) (RR_tbk (j := 3) (v := a 28 o + a 16 q) hR ho (by decide)) (by rw [up2_n _ _ (by omega)]; exact ho) (by omega)
    refine ⟨μ', ?_, ?_⟩
    · rw [k1]; rfl
    · exact k2
  · rw [if_neg (show ¬ nI 3 = nI 0 by decide), if_neg (show ¬ nI 3 = nI 1 by decide), if_neg (show ¬ nI 3 = nI 2 by decide), if_pos (rfl : nI 3 = nI 3)]
    have hb : a 14 q = nI 3 ∧ nb = 8 ∧ fb 4 = nI 44 ∧ fb 5 = a 16 q ∧ fb 6 = nI 38 ∧ fb 7 = a 17 q := by
      rcases b4 with ⟨h | h, -⟩ | ⟨h, -⟩ | ⟨h, -⟩ | h | ⟨h, -⟩ | ⟨h, -⟩
      all_goals first | exact h | exact absurd (h.symm.trans e14) (by decide)
    obtain ⟨-, c2, c3, c4, c5, c6⟩ := hb
    have hv2 := hfld μ 2 44 rfl (Nat.le_refl _) (by omega) c3 (by decide) (by decide) (by decide) (fun i' h1 h2 => by omega)
    rw [show fb (2 * 2 + 1) = a 16 q from c4] at hv2
    rw [hv2]
    simp only [Option.bind_some]
    have hv3 := hfld (uM μ 21 (2 * o) (nI 0).toNatClampNeg (a 16 q)) 3 38 (funext fun j => uM_n _ _ _ (by omega)) (by omega) (by omega) c5 (by decide) (by decide) (by decide) (fun i' h1 h2 => by
      obtain rfl : i' = 2 := by omega
      rw [show fb (2 * 2) = nI 44 from c3]; decide)
    rw [show fb (2 * 3 + 1) = a 17 q from c6, show (nI 0).toNatClampNeg = 0 from rfl] at hv3
    rw [hv3]
    simp only [Option.bind_some]
    have hR1 := RR_tbk (j := 0) (v := a 16 q) hR ho (by decide)
    have hR2 := RR_tbk (j := 1) (v := a 17 q) hR1 (by rw [up2_n _ _ (by omega)]; exact ho) (by decide)
    obtain ⟨μ', k1, k2⟩ := k_endReq (w := w) (σ := 3) hR2 (by rw [up2_n _ _ (by omega), up2_n _ _ (by omega)]; exact ho) (by omega)
    refine ⟨μ', ?_, ?_⟩
    · rw [k1]; rfl
    · exact k2
  · rw [if_neg (show ¬ nI 4 = nI 0 by decide), if_neg (show ¬ nI 4 = nI 1 by decide), if_neg (show ¬ nI 4 = nI 2 by decide), if_neg (show ¬ nI 4 = nI 3 by decide), if_pos (rfl : nI 4 = nI 4)]
    obtain ⟨μ', k1, k2⟩ := k_endReq (w := w) (σ := 4) hR ho (by omega)
    refine ⟨μ', ?_, ?_⟩
    · rw [k1]; rfl
    · exact k2
  · rw [if_neg (show ¬ nI 5 = nI 0 by decide), if_neg (show ¬ nI 5 = nI 1 by decide), if_neg (show ¬ nI 5 = nI 2 by decide), if_neg (show ¬ nI 5 = nI 3 by decide), if_neg (show ¬ nI 5 = nI 4 by decide), if_pos (rfl : nI 5 = nI 5), gEndReq_id (by omega)]
    have hb : a 14 q = nI 5 ∧ nb = 6 ∧ fb 4 = nI 17 ∧ fb 5 = a 16 q := by
      rcases b4 with ⟨h | h, -⟩ | ⟨h, -⟩ | ⟨h, -⟩ | ⟨h, -⟩ | h | ⟨h, -⟩
      all_goals first | exact h | exact absurd (h.symm.trans e14) (by decide)
    obtain ⟨-, c2, c3, c4⟩ := hb
    obtain ⟨e, d1, d2⟩ := he1 (Or.inl rfl)
    have hv2 := hfld μ 2 17 rfl (Nat.le_refl _) (by omega) c3 (by decide) (by decide) (by decide) (fun i' h1 h2 => by omega)
    rw [show fb (2 * 2 + 1) = nI e from c4.trans d1] at hv2
    obtain ⟨k1, k2, k3⟩ := k_findE (w := w) hR d2
    have h7 : μ.1 23 e 2 = a 39 e ∧ μ.1 23 e 6 = a 42 e := by
      obtain ⟨y1, k, y2, y3, y4, y5, y6, y7, y8⟩ := hR.2.2.2.2.2.2.2.2.1
      rw [y2, tnI (by omega)] at d2
      obtain ⟨t1, t2, t3, t4, t5, t6, t7, t8, t9, -⟩ := y8 e d2
      exact ⟨t5, t9⟩
    rw [hv2]
    simp only [Option.bind_some]
    rw [k1]
    simp only [Option.bind_some]
    rw [show gLrn a 5 q o = (if a 42 (tn (a 16 q)) = nI 0 then a else up2 (up2 (up2 a 43 (tn (a 16 q)) (nI 1)) 27 o (a 27 o - a 39 (tn (a 16 q)))) 28 o (a 28 o + a 39 (tn (a 16 q)))) from rfl, d1, tnI (by omega)]
    unfold f_X8_traderReadsBusted
    rw [if_neg (Nat.succ_ne_zero e), Nat.add_sub_cancel, ltt k2, h7.2]
    simp only [cond_true]
    by_cases c : a 42 e = nI 0
    · rw [if_pos (show a 42 e = (0 : Int32) from c), if_pos c]
      exact ⟨μ, rfl, hR⟩
    · rw [if_neg (show ¬ a 42 e = (0 : Int32) from c), if_neg c]
      simp only [yl]
      have hR1 := RR_exe (j := 2) (v := nI 1) hR d2 (by decide)
      have hR2 := RR_tbk (j := 2) (v := a 27 o - a 39 e) hR1 ho (by decide)
      have hR3 := RR_tbk (j := 3) (v := a 28 o + a 39 e) hR2 ho (by decide)
      refine ⟨_, ?_, hR3⟩
      rw [nzs, Nat.add_sub_cancel, ltt o1, ltt (show 2 * o < ν.2 21 by omega)]
      unfold f_X1_takeBack
      rw [ltt (show 2 * o < ν.2 21 by omega)]
      simp only [cond_true, yl, Option.bind_some]
      have w2 : (uM μ 23 e 8 1).1 23 e 2 = a 39 e := by rw [uM_s]; exact h7.1
      have w27 : (uM μ 23 e 8 1).1 21 (2 * o) 2 = a 27 o := by rw [uM_n _ _ _ (by omega)]; exact u3
      have w28 : (uM (uM μ 23 e 8 1) 21 (2 * o) 2 (a 27 o - a 39 e)).1 21 (2 * o) 3 = a 28 o := by rw [uM_s, uM_n _ _ _ (by omega)]; exact u4
      rw [w2, w27, w28]
      rfl
  · rw [if_neg (show ¬ nI 6 = nI 0 by decide), if_neg (show ¬ nI 6 = nI 1 by decide), if_neg (show ¬ nI 6 = nI 2 by decide), if_neg (show ¬ nI 6 = nI 3 by decide), if_neg (show ¬ nI 6 = nI 4 by decide), if_neg (show ¬ nI 6 = nI 5 by decide), if_pos (rfl : nI 6 = nI 6), gEndReq_id (by omega)]
    have hb : a 14 q = nI 6 ∧ nb = 8 ∧ fb 4 = nI 17 ∧ fb 5 = a 16 q ∧ fb 6 = nI 31 ∧ fb 7 = a 17 q := by
      rcases b4 with ⟨h | h, -⟩ | ⟨h, -⟩ | ⟨h, -⟩ | ⟨h, -⟩ | ⟨h, -⟩ | h
      all_goals first | exact h | exact absurd (h.symm.trans e14) (by decide)
    obtain ⟨-, c2, c3, c4, c5, c6⟩ := hb
    obtain ⟨e, d1, d2⟩ := he1 (Or.inr rfl)
    have hv2 := hfld μ 2 17 rfl (Nat.le_refl _) (by omega) c3 (by decide) (by decide) (by decide) (fun i' h1 h2 => by omega)
    rw [show fb (2 * 2 + 1) = nI e from c4.trans d1] at hv2
    have hv3 := hfld μ 3 31 rfl (by omega) (by omega) c5 (by decide) (by decide) (by decide) (fun i' h1 h2 => by
      obtain rfl : i' = 2 := by omega
      rw [show fb (2 * 2) = nI 17 from c3]; decide)
    rw [show fb (2 * 3 + 1) = a 17 q from c6] at hv3
    obtain ⟨k1, k2, k3⟩ := k_findE (w := w) hR d2
    have h7 : μ.1 23 e 6 = a 42 e := by
      obtain ⟨y1, k, y2, y3, y4, y5, y6, y7, y8⟩ := hR.2.2.2.2.2.2.2.2.1
      rw [y2, tnI (by omega)] at d2
      obtain ⟨t1, t2, t3, t4, t5, t6, t7, t8, t9, -⟩ := y8 e d2
      exact t9
    rw [show gLrn a 6 q o = (if a 42 (tn (a 16 q)) = nI 0 then a else up2 a 41 (tn (a 16 q)) (a 17 q)) from rfl, d1, tnI (by omega)]
    unfold f_X8_traderReadsCorrected
    rw [nzs, Nat.add_sub_cancel, ltt hm, show (17 : Int32) = nI 17 from rfl, hv2]
    simp only [cond_true, Option.bind_some]
    rw [ltt hR.1.1, k1]
    simp only [cond_true, Option.bind_some]
    rw [if_neg (Nat.succ_ne_zero e), Nat.add_sub_cancel, ltt k2, h7]
    simp only [cond_true]
    by_cases c : a 42 e = nI 0
    · rw [if_pos (show a 42 e = (0 : Int32) from c), if_pos c]
      exact ⟨μ, rfl, hR⟩
    · rw [if_neg (show ¬ a 42 e = (0 : Int32) from c), if_neg c, show (31 : Int32) = nI 31 from rfl, hv3]
      simp only [yl, Option.bind_some]
      exact ⟨_, rfl, RR_exe (j := 1) hR d2 (by decide)⟩
