/-! The house works a request off: the class against the reference. -/
theorem k_rankRR {w : Nat} {μ μ1 : MP} {ν : NC} {a a1 : AS} {o d : Nat} {x24 x25 x26 : Int32} (hR : RR μ ν a) (ho : o < tn (a 0 22)) (hd : d < 2) (h23 : a 23 o = nI d) (hx : x24 ≠ nI 0) (hr : ∀ o', o' < tn (a 0 22) → o' ≠ o → a 24 (40 + o') ≠ nI 0 → a 31 o' < a 0 32) (hw : 100 < w)
    (m1 : ∀ k, k ≠ 20 → k ≠ 21 → μ1.1 k = μ.1 k) (m2 : ∀ j, j ≠ o → μ1.1 20 j = μ.1 20 j) (m3 : ∀ j, j ≠ 6 → μ1.1 20 o j = μ.1 20 o j) (m4 : μ1.1 20 o 6 = x24) (m5 : ∀ j, j ≠ 2 * o + 1 → μ1.1 21 j = μ.1 21 j) (m6 : μ1.1 21 (2 * o + 1) 0 = x25 ∧ μ1.1 21 (2 * o + 1) 1 = x26 ∧ μ1.1 21 (2 * o + 1) 2 = μ.1 21 (2 * o + 1) 2 ∧ μ1.1 21 (2 * o + 1) 3 = μ.1 21 (2 * o + 1) 3) (m7 : μ1.2 = μ.2)
    (g1 : ∀ k, k ≠ 24 → k ≠ 25 → k ≠ 26 → a1 k = a k) (g2 : a1 24 = up1 (a 24) (40 + o) x24) (g3 : a1 25 = up1 (a 25) (40 + o) x25) (g4 : a1 26 = up1 (a 26) (40 + o) x26) :
    ∃ (μ' : MP) (ν' : NC), f_X8_rankBehindItsPrice w μ1 ν (o + 1) = some ((μ', ν'), 0) ∧ RR μ' ν' (gBehind a1 o) ∧ ν'.2 = ν.2 ∧ ∀ c y : Int, RC c y ν → RC c y ν' := by
  obtain ⟨o1, o2, o3, -⟩ := ordOf hR ho
  obtain ⟨h0, hF, h1, h2, h3, h4, h5, h6, h7, h8, h9⟩ := id hR
  obtain ⟨y1, n, y2, y3, y4, y5, y6, y7, y8⟩ := id h6
  have tn22 : tn (a 0 22) = n := by rw [y2, tnI (by omega)]
  rw [tn22] at ho hr
  have n24 : ∀ o', o' ≠ o → a1 24 (40 + o') = a 24 (40 + o') := fun o' h => by rw [g2, up1_n _ _ (by omega)]
  have n25 : ∀ o', o' ≠ o → a1 25 (40 + o') = a 25 (40 + o') := fun o' h => by rw [g3, up1_n _ _ (by omega)]
  have gg : ∀ k, k ≠ 24 ∧ k ≠ 25 ∧ k ≠ 26 → a1 k = a k := fun k h => g1 k h.1 h.2.1 h.2.2
  have mm : ∀ k, k ≠ 20 ∧ k ≠ 21 → μ1.1 k = μ.1 k := fun k h => m1 k h.1 h.2
  have hb : ∀ o', o' < n → μ1.1 20 o' 1 = a1 23 o' ∧ μ1.1 21 (2 * o' + 1) 0 = a1 25 (40 + o') := fun o' ho' => by
    obtain ⟨t1, t2, t3, t4, t5, t6, t7, t8, t9⟩ := y8 o' ho'
    have := (t9 1 (by decide)).1
    rw [show 40 * 1 + o' = 40 + o' by omega] at this
    rw [gg 23 (by decide)]
    by_cases c : o' = o
    · subst c
      exact ⟨(m3 1 (by decide)).trans t3, by rw [m6.1, g3, up1_s]⟩
    · rw [m2 o' c, m5 _ (by omega), n25 o' c]
      exact ⟨t3, this⟩
  obtain ⟨k, k1, k2, k3, k4, k5, k6, k7, k8⟩ := h9 d hd
  rw [tn22] at k6 k7
  have hah : ∀ o1 o2, o1 ≠ o → o2 ≠ o → aheadR (a 23) (a 25) (a 31) o1 o2 → aheadR (a1 23) (a1 25) (a1 31) o1 o2 := fun o1 o2 q1 q2 h => by
    unfold aheadR at h ⊢
    rw [n25 _ q1, n25 _ q2, gg 23 (by decide), gg 31 (by decide)]
    exact h
  have hW : W9 (μ1.1 4 (3 + d)) (μ1.2 5 (3 + d)) (ν.1 5 (3 + d)) (ν.2 20) n (a1 23) (a1 24) (a1 25) (a1 31) o d k := by
    rw [mm 4 (by decide), m7]
    refine ⟨k1, k2, k3, k4, k5, fun i hi => ?_, fun o' p1 p2 p3 p4 => ?_, fun i j hij hj he => ?_, fun i j hij hj ni nj => ?_⟩
    · obtain ⟨o', p1, p2, p3, p4⟩ := k6 i hi
      refine ⟨o', p1, p2, fun hne => ?_⟩
      rw [n24 o' hne, gg 23 (by decide)]
      exact ⟨p3, p4⟩
    · rw [n24 o' p2] at p3
      rw [gg 23 (by decide)] at p4
      exact k7 o' p1 p3 p4
    · have := k8 i j hij hj
      rw [he] at this
      unfold aheadR at this
      rcases this with h | h
      · exact Int32.lt_irrefl h.2
      · exact h.1 rfl
    · obtain ⟨o1', p1, -⟩ := k6 i (by omega)
      obtain ⟨o2', q1, -⟩ := k6 j hj
      have := k8 i j hij hj
      rw [p1] at ni
      rw [q1] at nj
      rw [p1, q1, Nat.add_sub_cancel, Nat.add_sub_cancel] at this ⊢
      exact hah o1' o2' (by omega) (by omega) this
  obtain ⟨μ', ν', e1, e2, f1, f2, f3, f4, f5, f6, f7, f8⟩ := k_rank (w := w) (r := a 0 32) h0 hd y4 y3 ho hb hW (by rw [g2, up1_s]; exact hx) (by rw [gg 23 (by decide)]; exact h23) (fun o' p1 p2 p3 => by rw [gg 31 (by decide)]; rw [n24 o' p2] at p3; exact hr o' p1 p2 p3) hw
  refine ⟨μ', ν', e1, ?_, f5, f8⟩
  have b0 : ∀ i, i ≠ 32 → gBehind a1 o 0 i = a 0 i := fun i hi => by
    unfold gBehind
    rw [up2_n _ _ (by omega), up2_n _ _ (by omega), gg 0 (by decide)]
  have br : ∀ k, k ≠ 0 ∧ k ≠ 31 → gBehind a1 o k = a1 k := fun k hk => by
    unfold gBehind
    funext i
    rw [up2_n _ _ (by omega), up2_n _ _ (by omega)]
  have b31 : gBehind a1 o 31 = up1 (a1 31) o (a 0 32) := by
    unfold gBehind
    funext i
    rw [gg 0 (by decide), up2_n _ _ (by omega)]
    by_cases c : i = o
    · subst c; rw [up2_s, up1_s]
    · rw [up2_n _ _ (by omega), up1_n _ _ c]
  have bg : ∀ k, k ≠ 0 ∧ k ≠ 31 ∧ k ≠ 24 ∧ k ≠ 25 ∧ k ≠ 26 → gBehind a1 o k = a k := fun k hk => (br k ⟨hk.1, hk.2.1⟩).trans (gg k ⟨hk.2.2.1, hk.2.2.2.1, hk.2.2.2.2⟩)
  have vv : ∀ k, k ≠ 4 ∧ k ≠ 20 ∧ k ≠ 21 → μ'.1 k = μ.1 k := fun k hk => (f1 k hk.1).trans (mm k hk.2)
  have v4 : ∀ j, j ≠ 3 + d → μ'.1 4 j = μ.1 4 j := fun j hj => by rw [f2 j hj, mm 4 (by decide)]
  have vp : ∀ k, k ≠ 5 → μ'.2 k = μ.2 k := fun k hk => by rw [f3 k hk, m7]
  have vp5 : ∀ j, j ≠ 3 + d → μ'.2 5 j = μ.2 5 j := fun j hj => by rw [f4 j hj, m7]
  have ww : ∀ k, k ≠ 5 ∧ k ≠ 98 → ν'.1 k = ν.1 k := fun k hk => f6 k hk.1 hk.2
  refine ⟨?_, ?_, ?_, ?_, ?_, ?_, ?_, ?_, ?_, ?_, ?_⟩
  · unfold R0; rw [f5, ww 30 (by decide), ww 31 (by decide)]; exact h0
  · intro κ hκ k' i' j hk' hi'
    rw [f5]
    by_cases c5 : k' = 5
    · subst c5
      by_cases ci : i' = 3 + d
      · subst ci
        have : κ = 20 := by rw [← hi']; rcases (show d = 0 ∨ d = 1 by omega) with rfl | rfl <;> rfl
        subst this
        obtain ⟨_, _, _, _, _, q, _⟩ := e2
        exact q j
      · rw [vp5 i' ci]; exact hF κ hκ 5 i' j hk' hi'
    · rw [vp k' c5]; exact hF κ hκ k' i' j hk' hi'
  · rw [vv 0 (by decide), b0 2 (by decide), b0 1 (by decide), b0 44 (by decide)]; exact h1
  · rw [vv 1 (by decide), b0 2 (by decide), bg 3 (by decide), bg 5 (by decide), bg 7 (by decide), bg 8 (by decide), bg 9 (by decide), bg 10 (by decide)]; exact h2
  · rw [vv 6 (by decide), vv 8 (by decide), ww 8 (by decide), f5, bg 4 (by decide), bg 11 (by decide), bg 12 (by decide), bg 13 (by decide), bg 14 (by decide), bg 15 (by decide), bg 16 (by decide), bg 17 (by decide), bg 37 (by decide), bg 39 (by decide), bg 40 (by decide)]
    refine ⟨fun s hs => ?_, fun s s' i i' hs hs' hi hi' hp => ?_⟩
    · rw [v4 s (by omega), vp5 s (by omega), f7 s (by omega)]; exact h3.1 s hs
    · rw [vp5 s (by omega), vp5 s' (by omega)] at hp; exact h3.2 s s' i i' hs hs' hi hi' hp
  · rw [vv 2 (by decide), vv 10 (by decide), vv 11 (by decide), vv 12 (by decide), ww 10 (by decide), ww 11 (by decide), ww 12 (by decide), bg 19 (by decide), bg 20 (by decide), bg 21 (by decide)]; exact h4
  · rw [vv 3 (by decide), vv 13 (by decide), ww 13 (by decide), bg 5 (by decide), bg 6 (by decide), bg 18 (by decide)]; exact h5
  · rw [b0 22 (by decide), f5, bg 23 (by decide), bg 27 (by decide), bg 28 (by decide), bg 29 (by decide), bg 30 (by decide), br 24 (by decide), br 25 (by decide), br 26 (by decide), f1 20 (by decide), f1 21 (by decide)]
    refine ⟨by rw [v4 2 (by omega)]; exact y1, n, y2, y3, y4, by rw [f7 2 (by omega)]; exact y5, by rw [f7 2 (by omega)]; exact y6, by rw [vp5 2 (by omega)]; exact y7, fun o' ho' => ?_⟩
    obtain ⟨t1, t2, t3, t4, t5, t6, t7, t8, t9⟩ := y8 o' ho'
    rw [vp5 2 (by omega)]
    have n24' : a1 24 o' = a 24 o' := by rw [g2, up1_n _ _ (by omega)]
    rw [n24']
    by_cases c : o' = o
    · subst c
      rw [m3 0 (by decide), m3 1 (by decide), m3 4 (by decide), m3 5 (by decide), m3 7 (by decide), m4, g2, up1_s]
      refine ⟨t1, t2, t3, t4, t5, t6, rfl, t8, fun z hz => ?_⟩
      obtain ⟨u1, u2, u3, u4⟩ := t9 z hz
      rcases (show z = 0 ∨ z = 1 by omega) with rfl | rfl
      · rw [m5 _ (by omega), g3, g4, up1_n _ _ (by omega), up1_n _ _ (by omega)]
        exact ⟨u1, u2, u3, u4⟩
      · rw [m6.1, m6.2.1, m6.2.2.1, m6.2.2.2, g3, g4, show 40 * 1 + o' = 40 + o' by omega, up1_s, up1_s]
        exact ⟨rfl, rfl, u3, u4⟩
    · rw [m2 o' c, n24 o' c]
      refine ⟨t1, t2, t3, t4, t5, t6, t7, t8, fun z hz => ?_⟩
      obtain ⟨u1, u2, u3, u4⟩ := t9 z hz
      rw [m5 _ (by omega), g3, g4, up1_n _ _ (by omega), up1_n _ _ (by omega)]
      exact ⟨u1, u2, u3, u4⟩
  · rw [b0 22 (by decide), b0 35 (by decide), f5, vv 23 (by decide), vp 23 (by decide), bg 36 (by decide), bg 37 (by decide), bg 38 (by decide), bg 39 (by decide), bg 40 (by decide), bg 41 (by decide), bg 42 (by decide), bg 43 (by decide)]
    exact R7_of h7 (v4 5 (by omega)) (vp5 5 (by omega)) (f7 5 (by omega))
  · rw [vp 24 (by decide), ww 24 (by decide), vv 25 (by decide), bg 33 (by decide), bg 34 (by decide)]; exact h8
  · rw [b0 22 (by decide), f5, br 23 (by decide), br 24 (by decide), br 25 (by decide), b31]
    intro d' hd'
    rw [tn22]
    by_cases c : d' = d
    · subst c
      exact e2
    · obtain ⟨k', j1, j2, j3, j4, j5, j6, j7, j8⟩ := h9 d' hd'
      rw [tn22] at j6 j7
      rw [v4 _ (by omega), vp5 _ (by omega), f7 _ (by omega)]
      have hne : ∀ o', a 23 o' = nI d' → o' ≠ o := fun o' e c' => by
        subst c'
        exact c ((nI_eq (by omega) (by omega)).mp (e.symm.trans h23))
      refine ⟨k', j1, j2, j3, j4, j5, fun i hi => ?_, fun o' p1 p2 p3 => ?_, fun i j hij hj => ?_⟩
      · obtain ⟨o', p1, p2, p3, p4⟩ := j6 i hi
        refine ⟨o', p1, p2, ?_, ?_⟩
        · rw [n24 o' (hne o' p4)]; exact p3
        · rw [gg 23 (by decide)]; exact p4
      · rw [gg 23 (by decide)] at p3
        rw [n24 o' (hne o' p3)] at p2
        exact j7 o' p1 p2 p3
      · obtain ⟨o1', p1, p2, p3, p4⟩ := j6 i (by omega)
        obtain ⟨o2', q1, q2, q3, q4⟩ := j6 j hj
        have := j8 i j hij hj
        rw [p1, q1, Nat.add_sub_cancel, Nat.add_sub_cancel] at this ⊢
        have := hah o1' o2' (hne o1' p4) (hne o2' q4) this
        unfold aheadR at this ⊢
        rw [up1_n _ _ (hne o1' p4), up1_n _ _ (hne o2' q4)]
        exact this
