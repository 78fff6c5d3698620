/-! What is held back: the class against the reference. -/
theorem hcnt_out (b : Nat → Int32) (s q : Nat) (x : Int32) : ∀ N, N ≤ 8192 → (q < 8192 * s ∨ 8192 * s + N ≤ q) → hcnt (up1 b q x) s N = hcnt b s N := by
  intro N
  induction N with
  | zero => intro _ _; rfl
  | succ N ih =>
    intro h1 h2
    unfold hcnt
    rw [ih (by omega) (by omega), up1_n _ _ (by omega)]
theorem hcnt_up (b : Nat → Int32) (s n : Nat) (x : Int32) : ∀ N, N ≤ 8192 → n < N → hcnt (up1 b (8192 * s + n) x) s N + (if b (8192 * s + n) = nI 0 then 0 else 1) = hcnt b s N + (if x = nI 0 then 0 else 1) := by
  intro N
  induction N with
  | zero => intro _ h; omega
  | succ N ih =>
    intro h1 h2
    unfold hcnt
    by_cases hn : n = N
    · subst hn
      rw [hcnt_out _ _ _ _ _ (by omega) (by omega), up1_s]
      omega
    · rw [up1_n _ _ (by omega)]
      have := ih (by omega) (by omega)
      omega
theorem hcnt_le (b : Nat → Int32) (s : Nat) : ∀ N, hcnt b s N ≤ N := by
  intro N
  induction N with
  | zero => exact Nat.le_refl _
  | succ N ih =>
    unfold hcnt
    split <;> omega
theorem hcnt_pos (b : Nat → Int32) (s n : Nat) (h : b (8192 * s + n) ≠ nI 0) : ∀ N, n < N → 0 < hcnt b s N := by
  intro N
  induction N with
  | zero => intro h; omega
  | succ N ih =>
    intro h1
    unfold hcnt
    by_cases hn : n = N
    · subst hn; rw [if_neg h]; omega
    · have := ih (by omega); omega
theorem hcnt_0 (b : Nat → Int32) (s : Nat) (h : hcnt b s 8192 = 0) (n : Nat) (hn : n < 8192) : b (8192 * s + n) = nI 0 := Classical.byContradiction fun hc => by
  have := hcnt_pos b s n hc 8192 hn
  omega
theorem RR_back {μ μ' : MP} {ν ν' : NC} {a a' : AS} (hR : RR μ ν a) (f1 : ∀ k, k ≠ 3 → k ≠ 13 → μ'.1 k = μ.1 k) (f2 : μ'.2 = μ.2) (f3 : ν'.2 = ν.2) (f4 : ∀ k, k ≠ 13 → k ≠ 98 → ν'.1 k = ν.1 k) (ga : ∀ k, k ≠ 6 → k ≠ 18 → a' k = a k) (h5 : R5 (μ'.1 3) (μ'.1 13) (ν'.1 13) (a' 5) (a' 6) (a' 18)) : RR μ' ν' a' := by
  obtain ⟨h0, hF, h1, h2, h3, h4, -, h6, h7, h8, h9⟩ := hR
  have g : ∀ k, k ≠ 3 ∧ k ≠ 13 → μ'.1 k = μ.1 k := fun k h => f1 k h.1 h.2
  have gv : ∀ k, k ≠ 13 ∧ k ≠ 98 → ν'.1 k = ν.1 k := fun k h => f4 k h.1 h.2
  have gg : ∀ k, k ≠ 6 ∧ k ≠ 18 → a' k = a k := fun k h => ga k h.1 h.2
  refine ⟨?_, ?_, ?_, ?_, ?_, ?_, h5, ?_, ?_, ?_, ?_⟩
  · unfold R0; rw [f3, gv 30 (by decide), gv 31 (by decide)]; exact h0
  · rw [f2, f3]; exact hF
  · rw [g 0 (by decide), gg 0 (by decide)]; exact h1
  · rw [g 1 (by decide), gg 0 (by decide), gg 3 (by decide), gg 5 (by decide), gg 7 (by decide), gg 8 (by decide), gg 9 (by decide), gg 10 (by decide)]; exact h2
  · rw [g 4 (by decide), g 6 (by decide), g 8 (by decide), f2, f3, gv 5 (by decide), gv 8 (by decide), gg 4 (by decide), gg 11 (by decide), gg 12 (by decide), gg 13 (by decide), gg 14 (by decide), gg 15 (by decide), gg 16 (by decide), gg 17 (by decide), gg 37 (by decide), gg 39 (by decide), gg 40 (by decide)]; exact h3
  · rw [g 2 (by decide), g 10 (by decide), g 11 (by decide), g 12 (by decide), gv 10 (by decide), gv 11 (by decide), gv 12 (by decide), gg 19 (by decide), gg 20 (by decide), gg 21 (by decide)]; exact h4
  · rw [g 4 (by decide), f2, gv 5 (by decide), f3, g 20 (by decide), g 21 (by decide), gg 0 (by decide), gg 23 (by decide), gg 24 (by decide), gg 25 (by decide), gg 26 (by decide), gg 27 (by decide), gg 28 (by decide), gg 29 (by decide), gg 30 (by decide)]; exact h6
  · rw [g 4 (by decide), f2, gv 5 (by decide), f3, g 23 (by decide), gg 0 (by decide), gg 36 (by decide), gg 37 (by decide), gg 38 (by decide), gg 39 (by decide), gg 40 (by decide), gg 41 (by decide), gg 42 (by decide), gg 43 (by decide)]; exact h7
  · rw [f2, gv 24 (by decide), g 25 (by decide), gg 33 (by decide), gg 34 (by decide)]; exact h8
  · rw [g 4 (by decide), f2, gv 5 (by decide), f3, gg 0 (by decide), gg 23 (by decide), gg 24 (by decide), gg 25 (by decide), gg 31 (by decide)]; exact h9
theorem hv_0 {v : Nat} (hv1 : v ≤ 1 ∨ 4 ≤ v) (hv2 : v ≤ 8193) : hv v = nI 0 ↔ v = 0 := by
  unfold hv
  by_cases c : v = 0
  · rw [if_pos c]; exact ⟨fun _ => c, fun _ => rfl⟩
  · rw [if_neg c]
    by_cases c1 : v = 1
    · rw [if_pos c1]; exact ⟨fun h => absurd h (by decide), fun h => absurd h c⟩
    · rw [if_neg c1]; exact ⟨fun h => absurd h (nIne (by omega) (by decide) (by omega)), fun h => absurd h c⟩
theorem k_hold {w n f : Nat} {μ : MP} {ν : NC} {a : AS} {s : Nat} (hR : RR μ ν a) (hs : s < 2) (hn : n ≤ 8190) (hf : f ≤ 8191) (hf1 : f ≠ 1) :
    ∃ (μ' : MP) (ν' : NC), f_X0_hold w μ ν s (nI n) (if f = 0 then nI 1 else nI f) = some ((μ', ν'), 0) ∧ RR μ' ν' (gHold a s n f) ∧ ν'.2 = ν.2 ∧ ∀ c d : Int, RC c d ν → RC c d ν' := by
  obtain ⟨z0, z1, z2, z3, z4, z5, z10, z11, z12, z13, -⟩ := id hR.1
  obtain ⟨y1, y2, y3, y4, y5, y6⟩ := hR.2.2.2.2.2.2.1 s hs
  obtain ⟨v, v1, v2, v3, v4, v5⟩ := y5 n (by omega)
  have hnv : (if f = 0 then nI 1 else nI f) = hv (if f = 0 then 1 else f + 2) := by
    by_cases c : f = 0
    · rw [if_pos c, if_pos c]; rfl
    · rw [if_neg c, if_neg c]; unfold hv; rw [if_neg (by omega), if_neg (by omega)]; rfl
  have hnx : (if f = 0 then nI 1 else nI (f + 2)) = nI (if f = 0 then 1 else f + 2) := by split <;> rfl
  generalize hz : (if f = 0 then 1 else f + 2) = z at hnv hnx
  have hzv : (z ≤ 1 ∨ 4 ≤ z) ∧ z ≤ 8193 ∧ z ≠ 0 := by rw [← hz]; split <;> omega
  have hcd : (decide (s < ν.2 3) && decide (s < ν.2 13) && !decide (nI n < 0) && decide ((nI n).toNatClampNeg ≤ 1048576) && decide (ν.1 13 s < 1073741824)) = true := by
    rw [nI_clamp (by omega)]
    simp only [Bool.and_eq_true, decide_eq_true_eq, Bool.not_eq_true', decide_eq_false_iff_not]
    exact ⟨⟨⟨⟨by omega, by omega⟩, nIb _ (by omega)⟩, by omega⟩, by omega⟩
  have hnz : nI z ≠ nI 0 := nIne (by omega) (by decide) hzv.2.2
  have ecnt : a 6 s + (if a 18 (8192 * s + n) = nI 0 then nI 1 else nI 0) = nI (hcnt (up1 (a 18) (8192 * s + n) (nI z)) s 8192) := by
    have := hcnt_up (a 18) s n (nI z) 8192 (Nat.le_refl _) (by omega)
    rw [if_neg hnz] at this
    rw [y2]
    by_cases c : a 18 (8192 * s + n) = nI 0
    · rw [if_pos c] at this ⊢; rw [nI_add]; exact congrArg nI (by omega)
    · rw [if_neg c] at this ⊢; rw [nI_add]; exact congrArg nI (by omega)
  have hg : gHold a s n f = up2 (up2 a 6 s (nI (hcnt (up1 (a 18) (8192 * s + n) (nI z)) s 8192))) 18 (8192 * s + n) (nI z) := by
    unfold gHold; rw [ecnt, hnx]
  have g6 : ∀ s', gHold a s n f 6 s' = if s' = s then nI (hcnt (up1 (a 18) (8192 * s + n) (nI z)) s 8192) else a 6 s' := fun s' => by
    rw [hg, up2_n _ _ (by omega)]
    by_cases c : s' = s
    · subst c; rw [up2_s, if_pos rfl]
    · rw [up2_n _ _ (by omega), if_neg c]
  have g18 : gHold a s n f 18 = up1 (a 18) (8192 * s + n) (nI z) := by
    rw [hg]; funext i
    simp (disch := omega) only [up2, up1_n, up1_s]
  have ga : ∀ k, k ≠ 6 → k ≠ 18 → gHold a s n f k = a k := fun k k1 k2 => by
    rw [hg]; funext i
    simp (disch := omega) only [up2, up1_n]
  -- the class's side, over a row r of length L that holds what is held back
  have main : ∀ (μ0 : MP) (ν' : NC), (∀ k, k ≠ 13 → μ0.1 k = μ.1 k) → μ0.2 = μ.2 → ν'.2 = ν.2 → (∀ k, k ≠ 13 → k ≠ 98 → ν'.1 k = ν.1 k) → (∀ s', s' ≠ s → μ0.1 13 s' = μ.1 13 s' ∧ ν'.1 13 s' = ν.1 13 s') → n < ν'.1 13 s → ν'.1 13 s ≤ 16400 → (∀ i, i < 8192 → ∃ u : Nat, a 18 (8192 * s + i) = nI u ∧ (u ≤ 1 ∨ 4 ≤ u) ∧ u ≤ 8193 ∧ (i < ν'.1 13 s → μ0.1 13 s i = hv u) ∧ (ν'.1 13 s ≤ i → u = 0)) → (∀ i, 8192 ≤ i → i < ν'.1 13 s → μ0.1 13 s i = nI 0) → RR (hdM μ0 s n (hv z)) ν' (gHold a s n f) := fun μ0 ν' m1 m2 w1 w2 w3 w4 w5 w6 w7 => by
    have e13 : ∀ s', (hdM μ0 s n (hv z)).1 13 s' = if s' = s then up1 (μ0.1 13 s) n (hv z) else μ0.1 13 s' := fun s' => by
      unfold hdM
      by_cases c : s' = s
      · subst c
        rw [uM_s, if_pos rfl]
        split
        · rw [uM_n _ _ _ (by omega)]
        · rfl
      · rw [uM_n _ _ _ (by omega), if_neg c]
        split
        · rw [uM_n _ _ _ (by omega)]
        · rfl
    obtain ⟨u, u1, u2, u3, u4, u5⟩ := w6 n (by omega)
    have e3 : ∀ s', (hdM μ0 s n (hv z)).1 3 s' 1 = if s' = s then nI (hcnt (up1 (a 18) (8192 * s + n) (nI z)) s 8192) else μ.1 3 s' 1 := fun s' => by
      have hr : μ0.1 13 s n = hv u := u4 w4
      have hiff : μ0.1 13 s n = 0 ↔ a 18 (8192 * s + n) = nI 0 := by
        rw [hr, u1]
        exact (hv_0 u2 u3).trans ⟨fun h => by rw [h], fun h => (nI_eq (by omega) (by decide)).mp h⟩
      unfold hdM
      rw [uM_n _ _ _ (by omega)]
      by_cases c : s' = s
      · subst c
        rw [if_pos rfl, ← ecnt]
        by_cases c2 : a 18 (8192 * s' + n) = nI 0
        · rw [if_pos (hiff.mpr c2), if_pos c2, uM_s, up1_s, m1 3 (by decide), y1]; rfl
        · rw [if_neg (fun h => c2 (hiff.mp h)), if_neg c2, m1 3 (by decide), y1, y2, nI_add, Nat.add_zero]
      · rw [if_neg c]
        split
        · rw [uM_n _ _ _ (by omega), m1 3 (by decide)]
        · rw [m1 3 (by decide)]
    refine RR_back hR (fun k k1 k2 => ?_) ?_ w1 w2 ga (fun s' hs' => ?_)
    · unfold hdM
      rw [show ∀ (m : MP) (x : Int32), (uM m 13 s n x).1 k = m.1 k from fun m x => by simp (disch := omega) only [uM, up3, up2, up1_n]]
      split
      · rw [show ∀ (m : MP) (x : Int32), (uM m 3 s 1 x).1 k = m.1 k from fun m x => by simp (disch := omega) only [uM, up3, up2, up1_n]]
        exact m1 k k2
      · exact m1 k k2
    · unfold hdM
      split
      · exact m2
      · exact m2
    · rw [e3, e13, g6, g18]
      by_cases c : s' = s
      · subst c
        rw [if_pos rfl, if_pos rfl, if_pos rfl]
        refine ⟨rfl, rfl, w5, by omega, fun i hi => ?_, fun i hi1 hi2 => ?_⟩
        · by_cases hin : i = n
          · subst hin
            exact ⟨z, up1_s _ _ _, hzv.1, hzv.2.1, fun _ => up1_s _ _ _, fun h => by omega⟩
          · obtain ⟨u', t1, t2, t3, t4, t5⟩ := w6 i hi
            exact ⟨u', (up1_n _ _ (by omega)).trans t1, t2, t3, fun h => (up1_n _ _ hin).trans (t4 h), t5⟩
        · rw [up1_n _ _ (by omega)]; exact w7 i hi1 hi2
      · rw [if_neg c, if_neg c, if_neg c]
        obtain ⟨x1, x2, x3, x4, x5, x6⟩ := hR.2.2.2.2.2.2.1 s' hs'
        rw [(w3 s' c).1, (w3 s' c).2]
        refine ⟨x1, ?_, x3, x4, fun i hi => ?_, x6⟩
        · rw [hcnt_out _ _ _ _ _ (Nat.le_refl _) (by omega)]; exact x2
        · obtain ⟨u', t1, t2⟩ := x5 i hi
          exact ⟨u', (up1_n _ _ (by omega)).trans t1, t2⟩
  unfold f_X0_hold
  rw [hcd, hnv, nI_clamp (show n < 2 ^ 31 by omega)]
  simp only [cond_true]
  by_cases c : n < ν.1 13 s
  · rw [if_pos c]
    exact ⟨_, ν, rfl, main μ ν (fun _ _ => rfl) rfl rfl (fun _ _ _ => rfl) (fun _ _ => ⟨rfl, rfl⟩) c y3 y5 y6, rfl, fun _ _ h => h⟩
  · rw [if_neg c, decide_eq_true (show 0 < n by omega)]
    simp only [cond_true]
    have e13 : (chg (up2 ν.1 13 s (2 * n), ν.2) 1 (2 * n)).1 13 s = 2 * n := by simp (disch := omega) only [chg, up2_n, up2_s]
    have e13' : ∀ s', s' ≠ s → (chg (up2 ν.1 13 s (2 * n), ν.2) 1 (2 * n)).1 13 s' = ν.1 13 s' := fun s' hs' => by simp (disch := omega) only [chg, up2_n]
    have m13 : (up2 μ.1 13 s (va_cpy (μ.1 13 s) (fun _ => 0) 0 0 (ν.1 13 s))) 13 s = va_cpy (μ.1 13 s) (fun _ => 0) 0 0 (ν.1 13 s) := up2_s _ _ _ _
    have hcp : ∀ i, va_cpy (μ.1 13 s) (fun _ => (0 : Int32)) 0 0 (ν.1 13 s) i = if i < ν.1 13 s then μ.1 13 s i else 0 := fun i => by
      unfold va_cpy
      by_cases h : i < ν.1 13 s
      · rw [if_pos ⟨Nat.zero_le _, by omega⟩, if_pos h, Nat.sub_zero, Nat.zero_add]
      · rw [if_neg (fun hh => h (by omega)), if_neg h]
    refine ⟨_, _, rfl, main _ _ (fun k hk => ?_) rfl rfl (fun k k1 k2 => ?_) (fun s' hs' => ⟨?_, e13' s' hs'⟩) (by rw [e13]; omega) (by rw [e13]; omega) (fun i hi => ?_) (fun i hi1 hi2 => ?_), rfl, fun cc dd hC => ?_⟩
    · simp (disch := omega) only [up2, up1_n]
    · simp (disch := omega) only [chg, up2, up1_n]
    · show up2 μ.1 13 s _ 13 s' = _
      exact up2_n _ _ (by omega)
    · obtain ⟨u, t1, t2, t3, t4, t5⟩ := y5 i hi
      refine ⟨u, t1, t2, t3, fun _ => ?_, fun h => t5 (by rw [e13] at h; omega)⟩
      show (up2 μ.1 13 s (va_cpy (μ.1 13 s) (fun _ => 0) 0 0 (ν.1 13 s))) 13 s i = _
      rw [m13, hcp]
      by_cases h : i < ν.1 13 s
      · rw [if_pos h]; exact t4 h
      · rw [if_neg h, t5 (by omega)]; rfl
    · show (up2 μ.1 13 s (va_cpy (μ.1 13 s) (fun _ => 0) 0 0 (ν.1 13 s))) 13 s i = _
      rw [m13, hcp]
      by_cases h : i < ν.1 13 s
      · rw [if_pos h]; exact y6 i hi1 h
      · rw [if_neg h]; rfl
    · obtain ⟨g1, g2⟩ := hC
      rcases (show s = 0 ∨ s = 1 by omega) with rfl | rfl
      · refine ⟨?_, ?_⟩
        · simp (disch := omega) only [kc, chg, up2_n, up2_s] at g1 ⊢
          omega
        · simp (disch := omega) only [ks, chg, up2_n, up2_s] at g2 ⊢
          omega
      · refine ⟨?_, ?_⟩
        · simp (disch := omega) only [kc, chg, up2_n, up2_s] at g1 ⊢
          omega
        · simp (disch := omega) only [ks, chg, up2_n, up2_s] at g2 ⊢
          omega
