/-! Routing: the class against the reference. -/
theorem gTrade_keeps {a : AS} {o q b e : Nat} {its : Int32} (ho : o < 40) (h35 : a 0 35 = nI e) (he : e < 100) (hf : fOk a) (hfr : frE a) (hnp : npE a b) : fOk (gTrade a o q its) ∧ frE (gTrade a o q its) ∧ npE (gTrade a o q its) b := by
  have tn35 : tn (a 0 35) = e := by rw [h35, tnI (by omega)]
  have gr : ∀ i, i ≠ 27 ∧ i ≠ 34 ∧ (i < 36 ∨ 42 < i) ∧ i ≠ 0 → gTrade a o q its i = a i := fun i hi => gTrade_r _ _ _ _ _ hi.1 hi.2.1 hi.2.2.1 hi.2.2.2
  have e35 : tn (gTrade a o q its 0 35) = e + 1 := by rw [gTrade_e _ _ _ _ _ h35 he, tnI (by omega)]
  refine ⟨fun s i hs hi k8 k1 f t ef et hft => ?_, fun e' h1 h2 => ?_, fun e' h1 h2 => ?_⟩
  · rw [gr 4 (by decide)] at hi
    rw [gr 11 (by decide)] at k8
    rw [gr 14 (by decide)] at k1
    rw [gr 16 (by decide)] at ef
    rw [gr 17 (by decide)] at et
    have := hf s i hs hi k8 k1 f t ef et hft
    omega
  · rw [e35] at h1
    obtain ⟨r1, r2, r3, r4⟩ := hfr e' (by omega) h2
    rw [gr 43 (by decide)]
    refine ⟨?_, ?_, r3, r4⟩
    · unfold gTrade; rw [tn35]; simp (disch := omega) only [up2_n]; exact r1
    · unfold gTrade; rw [tn35]; simp (disch := omega) only [up2_n]; exact r2
  · rw [e35] at h2
    by_cases c : e' = e
    · subst c
      unfold gTrade; rw [tn35]; simp (disch := omega) only [up2_n, up2_s]
    · unfold gTrade; rw [tn35]; simp (disch := omega) only [up2_n]
      exact hnp e' h1 (by omega)
/-- a report's body of executions -/
theorem k_bofL {w : Nat} {μ : MP} {ν : NC} {a : AS} {b t : Nat} {f0 : Nat → Int32} (hR : RR μ ν a) (hnp : npE a b) (h35 : a 0 35 = nI (b + t)) (hbt : b + t ≤ 100) : ∀ (j m i : Nat) (f1 : Nat → Int32), i + j = t → ∃ f2 : Nat → Int32, l_X8_bodyOfFilled_71 w (j + 1 + m) μ ν (nI (6 + 8 * i)) (nI (b + i)) f0 (6 + 8 * t) f1 = some ((μ, ν), (6 + 8 * t, f2)) ∧ (∀ z, z < 6 + 8 * i → f2 z = f1 z) ∧ ∀ y, i ≤ y → y < t → f2 (6 + 8 * y) = nI 17 ∧ f2 (7 + 8 * y) = nI (b + y) ∧ f2 (8 + 8 * y) = nI 30 ∧ f2 (9 + 8 * y) = a 37 (b + y) ∧ f2 (10 + 8 * y) = nI 31 ∧ f2 (11 + 8 * y) = a 40 (b + y) ∧ f2 (12 + 8 * y) = nI 32 ∧ f2 (13 + 8 * y) = a 39 (b + y) := by
  have z0 := hR.1.1
  have z4 := hR.1.2.2.2.2.1
  obtain ⟨y1, k, y2, y3, y4, y5, y6, y7, y8⟩ := hR.2.2.2.2.2.2.2.2.1
  have hk : k = b + t := (nI_eq (by omega) (by omega)).mp (y2.symm.trans h35)
  intro j
  induction j with
  | zero =>
    intro m i f1 hij
    refine ⟨f1, ?_, fun _ _ => rfl, fun y h1 h2 => by omega⟩
    rw [show 0 + 1 + m = m + 1 by omega]
    show b_X8_bodyOfFilled_71 _ w μ ν _ _ f0 _ f1 = _
    unfold b_X8_bodyOfFilled_71
    rw [ltt z0, ltt (show 5 < ν.2 4 by omega), y1, h35, if_pos ((nI_leI (by omega) (by omega)).mpr (by omega))]
    rfl
  | succ j ih =>
    intro m i f1 hij
    obtain ⟨t1, t2, t3, t4, t5, t6, t7, t8, t9, t10, t11, t12, t13⟩ := y8 (b + i) (by omega)
    have hget := k_get (i := 5) (n := b + t) (x := b + i) (p := b + i) hR.1 (by decide) (y1.trans h35) (by omega) (by omega) y6 (by omega) t1 (by show b + i < ν.2 23; omega)
    have hix : ∀ z, z < 8 → ixB (nI (6 + 8 * i + z)) (6 + 8 * t) = true := fun z hz => ixn (by omega) (by omega)
    have hpr := hnp (b + i) (by omega) (by rw [h35, tnI (by omega)]; omega)
    obtain ⟨f2, e1, e2, e3⟩ := ih m (i + 1) (up1 (up1 (up1 (up1 (up1 (up1 (up1 (up1 f1 (6 + 8 * i) (nI 17)) (6 + 8 * i + 1) (nI (b + i))) (6 + 8 * i + 2) (nI 30)) (6 + 8 * i + 3) (μ.1 23 (b + i) 1)) (6 + 8 * i + 4) (nI 31)) (6 + 8 * i + 5) (μ.1 23 (b + i) 4)) (6 + 8 * i + 6) (nI 32)) (6 + 8 * i + 7) (μ.1 23 (b + i) 2)) (by omega)
    refine ⟨f2, ?_, fun z hz => ?_, fun y h1 h2 => ?_⟩
    · rw [← e1, show j + 1 + 1 + m = (j + 1 + m) + 1 by omega]
      show b_X8_bodyOfFilled_71 _ w μ ν _ _ f0 _ f1 = _
      unfold b_X8_bodyOfFilled_71
      rw [ltt z0, ltt (show 5 < ν.2 4 by omega), y1, h35, if_neg (fun h => by have := (nI_leI (by omega) (by omega)).mp h; omega), hget]
      have c8 : ¬ nI (6 + 8 * t) < nI (6 + 8 * i) + 8 := fun h => by
        rw [q8, nI_add] at h
        have := (nI_ltI (by omega) (by omega)).mp h
        omega
      rw [if_neg c8, show (8 : Int32) = nI 8 from rfl, show (1 : Int32) = nI 1 from rfl, show (2 : Int32) = nI 2 from rfl, show (3 : Int32) = nI 3 from rfl, show (4 : Int32) = nI 4 from rfl, show (5 : Int32) = nI 5 from rfl, show (6 : Int32) = nI 6 from rfl, show (7 : Int32) = nI 7 from rfl]
      simp only [nI_add, Option.bind_some, cond_true]
      rw [show eK 5 5 = 23 from rfl, eqs, ltt (show b + i < ν.2 23 by omega), show ixB (nI (6 + 8 * i)) (6 + 8 * t) = true from hix 0 (by decide), hix 1 (by decide), hix 2 (by decide), hix 3 (by decide), hix 4 (by decide), hix 5 (by decide), hix 6 (by decide), hix 7 (by decide)]
      simp only [cond_true, yl]
      rw [nI_clamp (by omega), nI_clamp (by omega), nI_clamp (by omega), nI_clamp (by omega), nI_clamp (by omega), nI_clamp (by omega), nI_clamp (by omega), nI_clamp (by omega), show 6 + 8 * i + 8 = 6 + 8 * (i + 1) by omega, show b + i + 1 = b + (i + 1) by omega]
      rfl
    · rw [e2 z (by omega)]
      simp (disch := omega) only [up1_n]
    · by_cases c : y = i
      · subst c
        rw [e2 _ (by omega), e2 _ (by omega), e2 _ (by omega), e2 _ (by omega), e2 _ (by omega), e2 _ (by omega), e2 _ (by omega), e2 _ (by omega), ← t4, ← hpr, ← t7, ← t5]
        refine ⟨?_, ?_, ?_, ?_, ?_, ?_, ?_, ?_⟩
        · simp (disch := omega) only [up1_n, up1_s]
        · rw [show 7 + 8 * y = 6 + 8 * y + 1 by omega]; simp (disch := omega) only [up1_n, up1_s]
        · rw [show 8 + 8 * y = 6 + 8 * y + 2 by omega]; simp (disch := omega) only [up1_n, up1_s]
        · rw [show 9 + 8 * y = 6 + 8 * y + 3 by omega]; simp (disch := omega) only [up1_n, up1_s]
        · rw [show 10 + 8 * y = 6 + 8 * y + 4 by omega]; simp (disch := omega) only [up1_n, up1_s]
        · rw [show 11 + 8 * y = 6 + 8 * y + 5 by omega]; simp (disch := omega) only [up1_n, up1_s]
        · rw [show 12 + 8 * y = 6 + 8 * y + 6 by omega]; simp (disch := omega) only [up1_n, up1_s]
        · rw [show 13 + 8 * y = 6 + 8 * y + 7 by omega]; simp (disch := omega) only [up1_n, up1_s]
      · exact e3 y (by omega) h2
theorem va_cpy6 (f g : Nat → Int32) (z : Nat) (hz : z < 6) : va_cpy f g 0 0 6 z = f z := by
  unfold va_cpy
  rw [if_pos (by omega)]
  exact congrArg f (by omega)
theorem k_bof {w : Nat} {μ : MP} {ν : NC} {a : AS} {o b t : Nat} (hR : RR μ ν a) (ho : o < tn (a 0 22)) (hnp : npE a b) (h35 : a 0 35 = nI (b + t)) (hbt : b + t ≤ 100) (ht : 0 < t) (hw : 110 < w) : ∃ (ν' : NC) (f2 : Nat → Int32), f_X8_bodyOfFilled w μ ν (o + 1) (nI b) = some ((μ, ν'), (6 + 8 * t, f2)) ∧ RR μ ν' a ∧ bodyR (fun _ => nI 8) (fun _ => nI 1) (fun _ => nI o) (fun _ => nI b) (fun _ => nI t) (a 37) (a 39) (a 40) 0 (6 + 8 * t) f2 ∧ ν'.2 = ν.2 ∧ ∀ c y : Int, RC c y ν → RC (c + 16) (y + (12 + 8 * t : Nat)) ν' := by
  have hR1 : ∀ (ν0 : NC) (x y : Nat), RR μ ν0 a → RR μ (chg ν0 x y) a := fun ν0 x y h => h
  have hC1 : ∀ (ν0 : NC) (y : Nat) (c d : Int), RC c d ν0 → RC (c + 8) (d + y) (chg ν0 1 y) := fun ν0 y c d hC => by
    obtain ⟨g1, g2⟩ := hC
    refine ⟨?_, ?_⟩
    · simp (disch := omega) only [kc, chg, up2_n, up2_s] at g1 ⊢
      omega
    · simp (disch := omega) only [ks, chg, up2_n, up2_s] at g2 ⊢
      omega
  obtain ⟨o1, o2, o3, o4, -⟩ := ordOf hR ho
  have z0 := hR.1.1
  have z4 := hR.1.2.2.2.2.1
  have y1 := hR.2.2.2.2.2.2.2.2.1.1
  have hR2 := hR1 _ 1 (6 + 8 * t) (hR1 ν 1 6 hR)
  obtain ⟨m, rfl⟩ : ∃ m, w = t + 1 + m := ⟨w - t - 1, by omega⟩
  generalize hf0 : up1 (up1 (up1 (up1 (up1 (up1 (fun _ => (0 : Int32)) 0 (150 : Int32)) 1 (1 : Int32)) 2 (37 : Int32)) 3 (μ.1 20 o 0)) 4 (382 : Int32)) 5 (nI t) = f0
  obtain ⟨f2, e1, e2, e3⟩ := k_bofL (w := t + 1 + m) (f0 := f0) hR2 hnp h35 hbt t m 0 (va_cpy f0 (fun _ => 0) 0 0 6) (by omega)
  have e4 : ∀ z, z < 6 → f2 z = f0 z := fun z hz => by rw [e2 z (by omega), va_cpy6 _ _ _ hz]
  refine ⟨_, f2, ?_, hR2, ?_, rfl, fun c y hC => ?_⟩
  · unfold f_X8_bodyOfFilled
    rw [ltt z0, ltt (show 5 < ν.2 4 by omega), y1, h35, pk_sub (by omega), show b + t - b = t by omega]
    simp only [cond_true, yl]
    unfold b_X8_bodyOfFilled_14
    have hs : nI 6 + 8 * nI t = nI (6 + 8 * t) := by
      rw [q8, pk_mul, nI_add]
    rw [nzs, Nat.add_sub_cancel, show (chg ν 1 6).2 20 = ν.2 20 from rfl, ltt o1, hs, nI_clamp (by omega), hf0]
    have hc : (!decide (nI (6 + 8 * t) < 0) && decide (6 < 6 + 8 * t) && decide (6 + 8 * t ≤ 8388608)) = true := by
      simp only [Bool.and_eq_true, decide_eq_true_eq, Bool.not_eq_true', decide_eq_false_iff_not]
      exact ⟨⟨nIb _ (by omega), by omega⟩, by omega⟩
    rw [hc]
    simp only [cond_true]
    unfold b_X8_bodyOfFilled_61
    simp only [yl]
    exact e1
  · refine Or.inr (Or.inr (Or.inr (Or.inr (Or.inr ⟨rfl, ?_, ?_, ?_, ?_, Or.inr (Or.inl ⟨rfl, b, t, rfl, rfl, hbt, rfl, ?_, ?_, fun i hi => e3 i (by omega) hi⟩)⟩))))
    · rw [e4 0 (by decide), ← hf0]; rfl
    · rw [e4 1 (by decide), ← hf0]; rfl
    · rw [e4 2 (by decide), ← hf0]; rfl
    · rw [e4 3 (by decide), ← hf0]; exact o4
    · rw [e4 4 (by decide), ← hf0]; rfl
    · rw [e4 5 (by decide), ← hf0]; rfl
  · have := hC1 _ (6 + 8 * t) _ _ (hC1 _ 6 _ _ hC)
    rw [show c + 8 + 8 = c + 16 by omega, show y + (6 : Nat) + (6 + 8 * t : Nat) = y + (12 + 8 * t : Nat) by omega] at this
    exact this
theorem gBest_0 {a : AS} {o d : Nat} (hd : d < 2) (e : a 23 o = nI d) : gBest a o ≤ 3 ∧ (gBest a o ≠ 0 → True) := ⟨gBest_le a o, fun _ => trivial⟩
theorem k_routeL {w o d b : Nat} (hd : d < 2) (hw : 10 < w) : ∀ (j m e : Nat) (μ : MP) (ν : NC) (a : AS), RR μ ν a → o < tn (a 0 22) → a 0 35 = nI e → e ≤ 100 → b ≤ e → 101 ≤ j + e → j ≤ m → a 23 o = nI d → fOk a → frE a → npE a b → ∃ (μ' : MP) (ν' : NC) (e' : Nat), l_X8_route_10 w (m + 1) μ ν (o + 1) (nI b) (nI e) = b_X8_route_104 w μ' ν' (o + 1) (nI b) ∧ RR μ' ν' (gRouteL o (j + 1) a) ∧ gRouteL o (j + 1) a 0 35 = nI e' ∧ e ≤ e' ∧ e' ≤ 100 ∧ fOk (gRouteL o (j + 1) a) ∧ frE (gRouteL o (j + 1) a) ∧ npE (gRouteL o (j + 1) a) b ∧ ν'.2 6 = ν.2 6 ∧ ν'.2 20 = ν.2 20 ∧ ν'.2 23 = ν.2 23 + (e' - e) ∧ ∀ c y : Int, RC c y ν → RC (c - 112 * (e' - e : Nat)) (y - 1991 * (e' - e : Nat)) ν' := by
  intro j
  induction j with
  | zero => intro m e μ ν a _ _ _ h1 _ h2; omega
  | succ j ih =>
    intro m e μ ν a hR ho h35 he hb hj hm h23 hf hfr hnp
    have tn35 : tn (a 0 35) = e := by rw [h35, tnI (by omega)]
    have hend : gRouteL o (j + 1 + 1) a = a → l_X8_route_10 w (m + 1) μ ν (o + 1) (nI b) (nI e) = b_X8_route_104 w μ ν (o + 1) (nI b) → ∃ (μ' : MP) (ν' : NC) (e' : Nat), l_X8_route_10 w (m + 1) μ ν (o + 1) (nI b) (nI e) = b_X8_route_104 w μ' ν' (o + 1) (nI b) ∧ RR μ' ν' (gRouteL o (j + 1 + 1) a) ∧ gRouteL o (j + 1 + 1) a 0 35 = nI e' ∧ e ≤ e' ∧ e' ≤ 100 ∧ fOk (gRouteL o (j + 1 + 1) a) ∧ frE (gRouteL o (j + 1 + 1) a) ∧ npE (gRouteL o (j + 1 + 1) a) b ∧ ν'.2 6 = ν.2 6 ∧ ν'.2 20 = ν.2 20 ∧ ν'.2 23 = ν.2 23 + (e' - e) ∧ ∀ c y : Int, RC c y ν → RC (c - 112 * (e' - e : Nat)) (y - 1991 * (e' - e : Nat)) ν' := fun g1 g2 => by
      rw [g1]
      exact ⟨μ, ν, e, g2, hR, h35, Nat.le_refl _, he, hf, hfr, hnp, rfl, rfl, by omega, fun c y hC => by
        rw [show c - 112 * (e - e : Nat) = c by omega, show y - 1991 * (e - e : Nat) = y by omega]; exact hC⟩
    have hz0 := hR.1.1
    have z4 := hR.1.2.2.2.2.1
    have z25 := hR.1.2.2.2.2.2.2.2.2.2.2.2.1
    have hle := gBest_le a o
    have hbest := k_best (w := w) hR ho hd h23 hw
    have hstep : ∀ k, l_X8_route_10 w (k + 1) μ ν (o + 1) (nI b) (nI e) = b_X8_route_10 (l_X8_route_10 w k) w μ ν (o + 1) (nI b) (nI e) := fun k => rfl
    rw [hstep]
    rw [hstep] at hend
    by_cases c3 : 100 ≤ e
    · refine hend (by unfold gRouteL; rw [if_pos (Or.inr (Or.inr (by rw [tn35]; exact c3)))]) ?_
      unfold b_X8_route_10
      rw [if_pos (show (100 : Int32) ≤ nI e from (nI_leI (by decide) (by omega)).mpr c3)]
    · have c3' : ¬ (100 : Int32) ≤ nI e := fun h => c3 ((nI_leI (by decide) (by omega)).mp h)
      by_cases c2 : lft a (40 + o) ≤ nI 0
      · refine hend (by unfold gRouteL; rw [if_pos (Or.inr (Or.inl c2))]) ?_
        rw [if_pos c2] at hbest
        unfold b_X8_route_10
        rw [if_neg c3', ltt hz0, hbest]
        rfl
      · rw [if_neg c2] at hbest
        by_cases c1 : gBest a o = 0
        · refine hend (by unfold gRouteL; rw [if_pos (Or.inl c1)]) ?_
          rw [c1, show qP d 0 = 0 from rfl] at hbest
          unfold b_X8_route_10
          rw [if_neg c3', ltt hz0, hbest]
          rfl
        · obtain ⟨v, hv⟩ : ∃ v, gBest a o = v + 1 := ⟨gBest a o - 1, by omega⟩
          rw [hv] at hbest
          have hq : qP d (v + 1) = 3 * d + v + 1 := if_neg (Nat.succ_ne_zero v)
          rw [hq] at hbest
          obtain ⟨o1, o2, o3, -⟩ := ordOf hR ho
          obtain ⟨q1', q2'⟩ := hR.2.2.2.2.2.2.2.2.2.1 d hd
          obtain ⟨p1, p2, p3, p4⟩ := q2' v (by omega)
          have hr := k_rest (w := w) (z := 1) hR ho (by decide)
          rw [show 40 * 1 + o = 40 + o by omega] at hr
          have hg : gRouteL o (j + 1 + 1) a = gRouteL o (j + 1) (gTrade a o (2 * v + d) (itsOf a o (2 * v + d))) := by
            show (if _ then _ else _) = _
            rw [if_neg (fun hh => by
              rcases hh with hh | hh | hh
              · exact c1 hh
              · exact c2 hh
              · rw [tn35] at hh; exact c3 hh), h23, tn, nI_clamp (show d < 2 ^ 31 by omega), hv, Nat.add_sub_cancel]
          obtain ⟨m, rfl⟩ : ∃ m', m = m' + 1 := ⟨m - 1, by omega⟩
          have hits : (if a 34 (2 * v + d) < lft a (40 + o) then a 34 (2 * v + d) else lft a (40 + o)) = itsOf a o (2 * v + d) := by
            by_cases k1 : a 34 (2 * v + d) < lft a (40 + o)
            · rw [if_pos k1]; exact (if_pos (Int32.le_of_lt k1)).symm
            · rw [if_neg k1]
              by_cases k2 : a 34 (2 * v + d) ≤ lft a (40 + o)
              · exact (Int32.le_antisymm (Int32.not_lt.mp k1) k2).trans (if_pos k2).symm
              · exact (if_neg k2).symm
          obtain ⟨μ1, ν1, t1, t2, t3, t4, t5, t6⟩ := k_trade (w := w) (its := itsOf a o (2 * v + d)) (x2 := nI b) (K := l_X8_route_10 w (m + 1)) hR ho hd (show v < 3 by omega) h35 (by omega) hfr hf
          obtain ⟨k1, k2, k3⟩ := gTrade_keeps (q := 2 * v + d) (its := itsOf a o (2 * v + d)) o3 h35 (by omega) hf hfr hnp
          obtain ⟨μ2, ν2, e', s1, s2, s3, s4, s5, s6, s7, s8, s9, s10, s11, s12⟩ := ih m (e + 1) μ1 ν1 _ t2 (by rw [gTrade_k _ _ _ _ _ _ (by decide) (by decide) (by decide) (by decide)]; exact ho) (gTrade_e _ _ _ _ _ h35 (by omega)) (by omega) (by omega) (by omega) (by omega) ((gTrade_k _ _ _ _ _ _ (by decide) (by decide) (by decide) (by omega)).trans h23) k1 k2 k3
          rw [hg]
          refine ⟨μ2, ν2, e', ?_, s2, s3, by omega, s5, s6, s7, s8, by omega, by omega, by omega, fun c y hC => ?_⟩
          · rw [← s1, ← t1]
            unfold b_X8_route_10
            rw [if_neg c3', ltt hz0, hbest]
            simp only [cond_true, Option.bind_some]
            rw [if_neg (Nat.succ_ne_zero _), nzs, Nat.add_sub_cancel, Nat.add_sub_cancel, ltt o1, ltt o2, hr]
            simp only [cond_true, Option.bind_some]
            rw [ltt (show 3 * d + v < ν.2 25 by omega), ltt (show 5 < ν.2 4 by omega), p4, hits]
            simp only [cond_true, yl]
            rw [if_pos (show rfO μ ν 23 from hR.2.1 23 (Or.inr (Or.inr rfl)))]
          · have := s12 _ _ (t6 c y hC)
            rw [show c - 112 - 112 * (e' - (e + 1) : Nat) = c - 112 * (e' - e : Nat) by omega, show y - 1991 - 1991 * (e' - (e + 1) : Nat) = y - 1991 * (e' - e : Nat) by omega] at this
            exact this
/-- routing as a whole -/
theorem k_route {w o d e n : Nat} {μ : MP} {ν : NC} {a : AS} (hR : RR μ ν a) (ho : o < tn (a 0 22)) (hd : d < 2) (h23 : a 23 o = nI d) (h35 : a 0 35 = nI e) (he : e ≤ 100) (hf : fOk a) (hfr : frE a) (hw : 200 < w) (e4 : a 4 1 = nI n) (hn : n + 1 ≤ 8190) (hc : ¬ a 0 2 = nI 0 → ∃ c : Nat, a 20 0 = nI c ∧ c + 1 ≤ 65536) :
    ∃ (μ' : MP) (ν' : NC) (e' : Nat), f_X8_route w μ ν (o + 1) = some ((μ', ν'), 0) ∧ RR μ' ν' (gRoutes a o) ∧ gRoutes a o 0 35 = nI e' ∧ e ≤ e' ∧ e' ≤ 100 ∧ ν'.2 6 = ν.2 6 + (if e' = e then 0 else 1) ∧ ν'.2 20 = ν.2 20 ∧ ν'.2 23 = ν.2 23 + (e' - e) ∧ ∀ c y : Int, RC c y ν → RC c y ν' := by
  have tn35 : tn (a 0 35) = e := by rw [h35, tnI (by omega)]
  obtain ⟨m, rfl⟩ : ∃ m, w = m + 1 := ⟨w - 1, by omega⟩
  obtain ⟨μ1, ν1, e', s1, s2, s3, s4, s5, s6, s7, s8, s9, s10, s11, s12⟩ := k_routeL (w := m + 1) (b := e) hd (by omega) 101 m e μ ν a hR ho h35 he (Nat.le_refl _) (by omega) (by omega) h23 hf hfr (fun i h1 h2 => by omega)
  rw [show 101 + 1 = 102 from rfl] at s2 s3 s6 s7 s8
  have tn35' : tn (gRouteL o 102 a 0 35) = e' := by rw [s3, tnI (by omega)]
  have z0 := s2.1.1
  have z4 := s2.1.2.2.2.2.1
  have y1 := s2.2.2.2.2.2.2.2.2.1.1
  have gk : ∀ k i, k ≠ 27 ∧ k ≠ 34 ∧ (k < 36 ∨ 42 < k) → ¬ (k = 0 ∧ i = 35) → gRouteL o 102 a k i = a k i := fun k i h1 h2 => gRouteL_k o 102 a k i h1.1 h1.2.1 h1.2.2 h2
  have hfirst : f_X8_route (m + 1) μ ν (o + 1) = b_X8_route_104 (m + 1) μ1 ν1 (o + 1) (nI e) := by
    unfold f_X8_route
    rw [ltt hR.1.1, ltt (show 5 < ν.2 4 from by have := hR.1.2.2.2.2.1; omega), hR.2.2.2.2.2.2.2.2.1.1, h35]
    exact s1
  rw [hfirst]
  unfold b_X8_route_104
  rw [ltt z0, ltt (show 5 < ν1.2 4 by omega), y1, s3]
  simp only [cond_true]
  unfold gRoutes
  rw [tn35, tn35']
  by_cases c : e' ≤ e
  · have hee : e' = e := by omega
    subst hee
    rw [if_pos (Int32.le_refl _), if_pos (Nat.le_refl _)]
    refine ⟨μ1, ν1, e', rfl, s2, s3, Nat.le_refl _, s5, by rw [if_pos rfl]; exact s9, s10, s11, fun c y hC => ?_⟩
    have := s12 c y hC
    rw [show c - 112 * (e' - e' : Nat) = c by omega, show y - 1991 * (e' - e' : Nat) = y by omega] at this
    exact this
  · rw [if_neg (fun h => c ((nI_leI (by omega) (by omega)).mp h)), if_neg c]
    obtain ⟨ν2, f2, t1, t2, t3, t4, t5⟩ := k_bof (w := m + 1) (b := e) (t := e' - e) s2 (by rw [gk 0 22 (by decide) (by decide)]; exact ho) s8 (by rw [s3]; exact congrArg nI (by omega)) (by omega) (by omega) (by omega)
    obtain ⟨μ3, ν3, u1, u2, u3, u4, u5, u6⟩ := k_send_L (w := m + 1) (s := 1) (n := n) t2 (by decide) (by rw [gk 4 1 (by decide) (by decide)]; exact e4) hn (by rw [gk 0 2 (by decide) (by decide), gk 20 (1 - 1) (by decide) (by decide)]; exact hc) (show 6 + 8 * (e' - e) ≤ 806 by omega) t3
    refine ⟨μ3, ν3, e', ?_, u2, ?_, s4, s5, ?_, by rw [u4, t4, s10], by rw [u5, t4, s11], fun c y hC => ?_⟩
    · rw [t1]
      simp only [Option.bind_some]
      unfold b_X8_route_125
      rw [show ν2.2 = ν1.2 from t4, ltt z0, q1, q8, u1]
      rfl
    · rw [gRep, gSends_k _ _ _ _ _ _ _ _ _ (by decide) (by decide) (by decide) (by decide) (by decide)]
      exact s3
    · rw [u3, t4, s9, if_neg (by omega)]
    · have := u6 _ _ (t5 _ _ (s12 c y hC))
      obtain ⟨g1, g2⟩ := this
      refine ⟨by omega, by omega⟩
