/-! Answers: the class against the reference. -/
theorem uM_s (μ : MP) (k i j : Nat) (v : Int32) : (uM μ k i j v).1 k i = up1 (μ.1 k i) j v := up3_s μ.1 k i j v
theorem uM_n (μ : MP) {k i k' i' : Nat} (j : Nat) (v : Int32) (h : ¬ (k' = k ∧ i' = i)) : (uM μ k i j v).1 k' i' = μ.1 k' i' := up3_n μ.1 v h
theorem RR_way {μ μ' : MP} {ν ν' : NC} {a a' : AS} (hR : RR μ ν a) (f1 : ∀ k, k ≠ 2 → k ≠ 10 → k ≠ 11 → k ≠ 12 → μ'.1 k = μ.1 k) (f2 : μ'.2 = μ.2) (f3 : ν'.2 = ν.2) (f4 : ∀ k, k ≠ 10 → k ≠ 11 → k ≠ 12 → k ≠ 98 → ν'.1 k = ν.1 k) (ga : ∀ k, k ≠ 19 → k ≠ 20 → k ≠ 21 → a' k = a k) (h4 : R4 (μ'.1 2) (μ'.1 10) (μ'.1 11) (μ'.1 12) (ν'.1 10) (ν'.1 11) (ν'.1 12) (a' 19) (a' 20) (a' 21)) : RR μ' ν' a' := by
  obtain ⟨h0, hF, h1, h2, h3, -, h5, h6, h7, h8, h9⟩ := hR
  have g : ∀ k, k ≠ 2 ∧ k ≠ 10 ∧ k ≠ 11 ∧ k ≠ 12 → μ'.1 k = μ.1 k := fun k h => f1 k h.1 h.2.1 h.2.2.1 h.2.2.2
  have gv : ∀ k, k ≠ 10 ∧ k ≠ 11 ∧ k ≠ 12 ∧ k ≠ 98 → ν'.1 k = ν.1 k := fun k h => f4 k h.1 h.2.1 h.2.2.1 h.2.2.2
  have gg : ∀ k, k ≠ 19 ∧ k ≠ 20 ∧ k ≠ 21 → a' k = a k := fun k h => ga k h.1 h.2.1 h.2.2
  refine ⟨?_, ?_, ?_, ?_, ?_, h4, ?_, ?_, ?_, ?_, ?_⟩
  · unfold R0; rw [f3, gv 30 (by decide), gv 31 (by decide)]; exact h0
  · rw [f2, f3]; exact hF
  · rw [g 0 (by decide), gg 0 (by decide)]; exact h1
  · rw [g 1 (by decide), gg 0 (by decide), gg 3 (by decide), gg 5 (by decide), gg 7 (by decide), gg 8 (by decide), gg 9 (by decide), gg 10 (by decide)]; exact h2
  · rw [g 4 (by decide), g 6 (by decide), g 8 (by decide), f2, f3, gv 5 (by decide), gv 8 (by decide), gg 4 (by decide), gg 11 (by decide), gg 12 (by decide), gg 13 (by decide), gg 14 (by decide), gg 15 (by decide), gg 16 (by decide), gg 17 (by decide), gg 37 (by decide), gg 39 (by decide), gg 40 (by decide)]; exact h3
  · rw [g 3 (by decide), g 13 (by decide), gv 13 (by decide), gg 5 (by decide), gg 6 (by decide), gg 18 (by decide)]; exact h5
  · rw [g 4 (by decide), f2, gv 5 (by decide), f3, g 20 (by decide), g 21 (by decide), gg 0 (by decide), gg 23 (by decide), gg 24 (by decide), gg 25 (by decide), gg 26 (by decide), gg 27 (by decide), gg 28 (by decide), gg 29 (by decide), gg 30 (by decide)]; exact h6
  · rw [g 4 (by decide), f2, gv 5 (by decide), f3, g 23 (by decide), gg 0 (by decide), gg 36 (by decide), gg 37 (by decide), gg 38 (by decide), gg 39 (by decide), gg 40 (by decide), gg 41 (by decide), gg 42 (by decide), gg 43 (by decide)]; exact h7
  · rw [f2, gv 24 (by decide), g 25 (by decide), gg 33 (by decide), gg 34 (by decide)]; exact h8
  · rw [g 4 (by decide), f2, gv 5 (by decide), f3, gg 0 (by decide), gg 23 (by decide), gg 24 (by decide), gg 25 (by decide), gg 31 (by decide)]; exact h9
/-- the reference, with the class's own note of when a side sent last -/
def JJ (a : AS) (s : Nat) (v : Int32) : AS := up2 a 9 s v
theorem JJ_k (a : AS) (s : Nat) (v : Int32) (k : Nat) (h : k ≠ 9) : JJ a s v k = a k := by
  unfold JJ up2
  exact up1_n _ _ h
theorem k_putJ {w : Nat} {μ : MP} {ν : NC} {a : AS} {s n f c : Nat} {v : Int32} (hR : RR μ ν (JJ a s v)) (hs : s < 2) (e20 : a 20 (1 - s) = nI c) (hc : c + 1 ≤ 65536) (hn : n ≤ 8190) (hf : f ≤ 8191) (hf1 : f ≠ 1) :
    ∃ (μ' : MP) (ν' : NC), f_X7_put w μ ν (1 - s) (nI n) (if f = 0 then nI 1 else nI f) = some ((μ', ν'), 0) ∧ RR μ' ν' (JJ (gGoes a s n f) s v) ∧ (∀ k, k ≠ 2 → k ≠ 10 → k ≠ 11 → k ≠ 12 → μ'.1 k = μ.1 k) ∧ μ'.2 = μ.2 ∧ ν'.2 = ν.2 ∧ ∀ c d : Int, RC c d ν → RC c d ν' := by
  obtain ⟨μ', ν', p1, p2, p3, p4, p5, p6, p7⟩ := k_put (w := w) (x := n) (f := f) hR.1 hR.2.2.2.2.2.1 (show 1 - s < 2 by omega) ((congrFun (JJ_k a s v 20 (by decide)) _).trans e20) hc hn hf hf1
  refine ⟨μ', ν', p1, RR_way hR p4 p3 p5 p6 (fun k k1 k2 k3 => ?_) ?_, p4, p3, p5, p7⟩
  · by_cases h9 : k = 9
    · subst h9
      funext i
      unfold JJ
      by_cases hi : i = s
      · subst hi; rw [up2_s, up2_s]
      · rw [up2_n _ _ (by omega), up2_n _ _ (by omega)]
        unfold gGoes
        rw [up2_n _ _ (by omega), up2_n _ _ (by omega), up2_n _ _ (by omega)]
    · rw [JJ_k _ _ _ _ h9, JJ_k _ _ _ _ h9]
      exact gGoes_r _ _ _ _ _ k3 k2 h9
  · rw [JJ_k _ _ _ 19 (by decide), JJ_k _ _ _ 20 (by decide), JJ_k _ _ _ 21 (by decide)]
    rw [JJ_k _ _ _ 19 (by decide), JJ_k _ _ _ 20 (by decide), JJ_k _ _ _ 21 (by decide)] at p2
    have g20 : gGoes a s n f 20 = up1 (a 20) (1 - s) (nI (c + 1)) := by
      funext i
      simp (disch := omega) only [gGoes, up2, up1_n, up1_s, e20, tn, nI_clamp]
    have g21 : gGoes a s n f 21 = up1 (a 21) (65536 * (1 - s) + (tn (a 19 (1 - s)) + c) % 65536) (nI (2 * (8192 * n + f))) := by
      funext i
      simp (disch := omega) only [gGoes, pl, up2, up1_n, up1_s, e20, tn, nI_clamp]
    have g19 : gGoes a s n f 19 = a 19 := gGoes_r _ _ _ _ _ (by decide) (by decide) (by decide)
    rw [g19, g20, g21]
    exact p2
theorem k_findO {w o : Nat} {μ : MP} {ν : NC} {a : AS} (hR : RR μ ν a) (ho : o < tn (a 0 22)) : f_X8_findOrder w μ ν (nI o) = some (o + 1) ∧ o < ν.2 20 ∧ o < 40 := by
  obtain ⟨h0, -, -, -, -, -, -, h6, -⟩ := hR
  obtain ⟨y1, k, y2, y3, y4, y5, y6, y7, y8⟩ := h6
  rw [y2, tnI (by omega)] at ho
  obtain ⟨x1, -⟩ := y8 o ho
  have hg := k_get (μ := μ) (ν := ν) (i := 2) (n := k) (x := o) (p := o) h0 (by decide) (y1.trans y2) (by omega) y5 y6 ho x1 (by show o < ν.2 20; omega)
  have c1 : ¬ nI o < nI 0 := fun h => by have := (nI_ltI (by omega) (by decide)).mp h; omega
  have c2 : ¬ nI k ≤ nI o := fun h => by have := (nI_leI (by omega) (by omega)).mp h; omega
  refine ⟨?_, by omega, by omega⟩
  unfold f_X8_findOrder
  have z4 := h0.2.2.2.2.1
  rw [q0, if_neg c1, ltt h0.1, ltt (show 2 < ν.2 4 by omega), y1, y2]
  simp only [cond_true]
  rw [if_neg c2, hg]
  simp only [Option.bind_some, show eK 5 2 = 20 from by decide, eqs, cond_true, ltt (show o < ν.2 20 by omega)]
theorem k_may {w m q : Nat} {μ : MP} {ν : NC} {a : AS} (h0 : R0 ν) (hnow : μ.1 0 0 9 = a 0 1) (hm : m < ν.2 6) (e0 : μ.1 6 m 0 = a 11 q) (e1 : μ.1 6 m 1 = a 12 q) (e3 : μ.1 6 m 3 = a 13 q) : f_X8_mayGoAgain w μ ν (m + 1) = some (if stays a q then nI 0 else nI 1) := by
  unfold f_X8_mayGoAgain
  rw [nzs, Nat.add_sub_cancel, ltt hm, ltt h0.1, e0, e1, e3, hnow]
  simp only [cond_true]
  rw [q5, q0, q1, q20]
  unfold stays old
  by_cases c1 : a 11 q = nI 5
  · rw [if_pos c1]
    have c2 : ¬ a 11 q < nI 5 := by rw [c1]; decide
    by_cases c3 : a 13 q = nI 0
    · rw [if_pos c3]
      by_cases c4 : a 0 1 - a 12 q ≤ nI 20
      · rw [if_neg (Int32.not_lt.mpr c4), if_neg (fun h => h.elim c2 (fun h => h.2.1 c4))]
      · rw [if_pos (Int32.not_le.mp c4), if_pos (Or.inr ⟨c1, c4, c3⟩)]
    · rw [if_neg c3, if_neg (fun h => h.elim c2 (fun h => c3 h.2.2))]
  · rw [if_neg c1]
    by_cases c2 : a 11 q < nI 5
    · rw [if_pos (Int32.le_of_lt c2), if_pos (Or.inl c2)]
    · have c3 : ¬ a 11 q ≤ nI 5 := fun h => c1 (Int32.le_antisymm h (Int32.not_lt.mp c2))
      rw [if_neg c3, if_neg (fun h => h.elim c2 (fun h => c1 h.1))]
/-- the same state but for what is said of messages that went again, and of orders left out -/
theorem RR_again {μ : MP} {ν : NC} {a : AS} {s n m : Nat} {v : Int32} (hR : RR μ ν (JJ a s v)) (hs : s < 2) (h1 : 1 ≤ n) (hn : n ≤ tn (a 4 s)) (hm : μ.2 5 s (n - 1) = m + 1) : RR (uM μ 6 m 3 1) ν (JJ (up2 a 13 (8192 * s + n) (nI 1)) s v) := by
  obtain ⟨g0, gF, g1, g2, g3, g4, g5, g6, g7, g8, g9⟩ := hR
  refine ⟨g0, gF, g1, g2, ⟨fun s' hs' => ?_, g3.2⟩, g4, g5, g6, g7, g8, g9⟩
  obtain ⟨y1, k, y2, y3, y4, y5, y6, y7⟩ := g3.1 s' hs'
  have hk4 : (JJ a s v) 4 s' = a 4 s' := congrFun (JJ_k a s v 4 (by decide)) s'
  refine ⟨y1, k, y2, y3, y4, y5, y6, fun i hi => ?_⟩
  obtain ⟨m', x1, x2, x3⟩ := y7 i hi
  refine ⟨m', x1, x2, ?_⟩
  have hi' : i < tn (JJ a s v 4 s') := by rw [y2, tnI (by omega)]; exact hi
  have hn' : n - 1 < tn (JJ a s v 4 s) := by rw [congrFun (JJ_k a s v 4 (by decide)) s]; omega
  by_cases hmm : m' = m
  · subst hmm
    obtain ⟨rfl, hii⟩ := g3.2 s' s i (n - 1) hs' hs hi' hn' (x1.trans hm.symm)
    have hin : i + 1 = n := by omega
    obtain ⟨r1, r2, r3, nb, fb, r4, r5, r6, r7⟩ := x3
    rw [hin] at r1 r2 r6 r7 ⊢
    refine ⟨?_, ?_, ?_, nb, fb, r4, r5, fun j hj => r6 j hj, r7⟩
    · show up3 μ.1 6 m' 3 1 6 m' 0 = _
      rw [up3_s, up1_n _ _ (by decide)]; exact r1
    · show up3 μ.1 6 m' 3 1 6 m' 1 = _
      rw [up3_s, up1_n _ _ (by decide)]; exact r2
    · show up3 μ.1 6 m' 3 1 6 m' 3 = JJ (up2 a 13 (8192 * s' + n) (nI 1)) s' v 13 (8192 * s' + n)
      rw [up3_s, up1_s, JJ_k _ _ _ _ (by decide), up2_s]; rfl
  · have hne : 8192 * s' + (i + 1) ≠ 8192 * s + n := fun e => by
      have hk8 : i + 1 ≤ 8190 := by omega
      have hss : s' = s := by
        have : tn (a 4 s) ≤ 8190 := by
          obtain ⟨-, k2, w2, w3, -⟩ := g3.1 s hs
          rw [← congrFun (JJ_k a s v 4 (by decide)) s, w2, tnI (by omega)]; exact w3
        omega
      subst hss
      have : i = n - 1 := by omega
      subst this
      exact hmm (Nat.succ.inj (x1.symm.trans hm))
    have e6 : (uM μ 6 m 3 1).1 6 m' = μ.1 6 m' := uM_n _ _ _ (by omega)
    rw [e6]
    exact msgRel_congr x3 rfl rfl (show JJ (up2 a 13 (8192 * s + n) (nI 1)) s v 13 (8192 * s' + (i + 1)) = JJ a s v 13 (8192 * s' + (i + 1)) by rw [JJ_k _ _ _ _ (by decide), JJ_k _ _ _ _ (by decide)]; exact up2_n _ _ (by omega)) rfl rfl rfl rfl (fun _ _ _ _ _ _ _ _ _ => ⟨rfl, rfl, rfl⟩)
theorem RR_leftOut {μ : MP} {ν : NC} {a : AS} {s o : Nat} {v : Int32} (hR : RR μ ν (JJ a s v)) : RR (uM μ 20 o 5 1) ν (JJ (up2 a 29 o (nI 1)) s v) := by
  obtain ⟨g0, gF, g1, g2, g3, g4, g5, ⟨y1, k, y2, y3, y4, y5, y6, y7, y8⟩, g7, g8, g9⟩ := hR
  refine ⟨g0, gF, g1, g2, g3, g4, g5, ⟨y1, k, y2, y3, y4, y5, y6, y7, fun o' ho' => ?_⟩, g7, g8, g9⟩
  obtain ⟨x1, x2, x3, x4, x5, x6, x7, x8, x9⟩ := y8 o' ho'
  by_cases hoo : o' = o
  · subst hoo
    have e : (uM μ 20 o' 5 1).1 20 o' = up1 (μ.1 20 o') 5 1 := uM_s _ _ _ _ _
    have e29 : JJ (up2 a 29 o' (nI 1)) s v 29 o' = nI 1 := by rw [JJ_k _ _ _ _ (by decide), up2_s]
    rw [e, e29]
    exact ⟨x1, (up1_n _ _ (by decide)).trans x2, (up1_n _ _ (by decide)).trans x3, x4, (up1_n _ _ (by decide)).trans x5, up1_s _ _ _, (up1_n _ _ (by decide)).trans x7, (up1_n _ _ (by decide)).trans x8, x9⟩
  · have e : (uM μ 20 o 5 1).1 20 o' = μ.1 20 o' := uM_n _ _ _ (by omega)
    have e29 : JJ (up2 a 29 o (nI 1)) s v 29 o' = JJ a s v 29 o' := by rw [JJ_k _ _ _ _ (by decide), JJ_k _ _ _ _ (by decide), up2_n _ _ (by omega)]
    rw [e, e29]
    exact ⟨x1, x2, x3, x4, x5, x6, x7, x8, x9⟩
theorem RR_sent {μ : MP} {ν : NC} {a : AS} {s : Nat} {v v' : Int32} (hR : RR μ ν (JJ a s v)) : RR (uM μ 1 s 7 v') ν (JJ a s v') := by
  obtain ⟨g0, gF, g1, g2, g3, g4, g5, g6, g7, g8, g9⟩ := hR
  refine ⟨g0, gF, g1, fun s' hs' => ?_, g3, g4, g5, g6, g7, g8, g9⟩
  obtain ⟨x1, x2, x3, x4, x5, x6, x7⟩ := g2 s' hs'
  by_cases hss : s' = s
  · subst hss
    have e : (uM μ 1 s' 7 v').1 1 s' = up1 (μ.1 1 s') 7 v' := uM_s _ _ _ _ _
    have e9 : JJ a s' v' 9 s' = v' := up2_s _ _ _ _
    rw [e, e9]
    exact ⟨(up1_n _ _ (by decide)).trans x1, (up1_n _ _ (by decide)).trans x2, (up1_n _ _ (by decide)).trans x3, (up1_n _ _ (by decide)).trans x4, (up1_n _ _ (by decide)).trans x5, fun _ => up1_s _ _ _, x7⟩
  · have e : (uM μ 1 s 7 v').1 1 s' = μ.1 1 s' := uM_n _ _ _ (by omega)
    have e9 : JJ a s v' 9 s' = JJ a s v 9 s' := (up2_n _ _ (by omega)).trans (up2_n _ _ (by omega)).symm
    rw [e, e9]
    exact ⟨x1, x2, x3, x4, x5, x6, x7⟩
