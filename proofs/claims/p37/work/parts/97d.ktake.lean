/-! Taking what is held back; going down. -/
theorem gThr1_0 {a : AS} {s n : Nat} (h : a 18 (8192 * s + n) = nI 0) : gThr1 a s n = a := by
  unfold gThr1
  rw [h, if_pos (by decide)]
  funext k i
  by_cases h1 : k = 18 ∧ i = 8192 * s + n
  · obtain ⟨rfl, rfl⟩ := h1; rw [up2_s, h]
  · rw [up2_n _ _ h1]
    by_cases h2 : k = 6 ∧ i = s
    · obtain ⟨rfl, rfl⟩ := h2
      rw [up2_s]
      show a 6 i - 0 = a 6 i
      exact Int32.sub_zero _
    · rw [up2_n _ _ h2]
theorem gThr1_p {a : AS} {s n : Nat} (h : ¬ a 18 (8192 * s + n) ≤ nI 0) : gThr1 a s n = up2 (up2 a 18 (8192 * s + n) (nI 0)) 6 s (a 6 s - nI 1) := by
  unfold gThr1
  rw [if_neg h]
  funext k i
  by_cases h1 : k = 18 ∧ i = 8192 * s + n
  · obtain ⟨rfl, rfl⟩ := h1; rw [up2_s, up2_n _ _ (by omega), up2_s]
  · rw [up2_n _ _ h1]
    by_cases h2 : k = 6 ∧ i = s
    · obtain ⟨rfl, rfl⟩ := h2; rw [up2_s, up2_s]
    · rw [up2_n _ _ h2, up2_n _ _ h2, up2_n _ _ h1]
theorem gThrL_0 (s : Nat) : ∀ (d n : Nat) (a : AS), (∀ i, n ≤ i → i < n + d → a 18 (8192 * s + i) = nI 0) → gThrL s d n a = a := by
  intro d
  induction d with
  | zero => intro n a _; rfl
  | succ d ih =>
    intro n a h
    show gThrL s d (n + 1) (gThr1 a s n) = a
    rw [gThr1_0 (h n (Nat.le_refl _) (by omega))]
    exact ih (n + 1) a (fun i h1 h2 => h i (by omega) (by omega))
theorem gThrL_add (s : Nat) : ∀ (d n e : Nat) (a : AS), gThrL s (d + e) n a = gThrL s e (n + d) (gThrL s d n a) := by
  intro d
  induction d with
  | zero => intro n e a; rw [Nat.zero_add]; rfl
  | succ d ih =>
    intro n e a
    rw [show d + 1 + e = (d + e) + 1 by omega]
    show gThrL s (d + e) (n + 1) (gThr1 a s n) = gThrL s e (n + (d + 1)) (gThrL s d (n + 1) (gThr1 a s n))
    rw [ih (n + 1) e (gThr1 a s n), show n + 1 + d = n + (d + 1) by omega]
theorem nIleV {v : Nat} (hv : v < 2 ^ 31) : nI v ≤ nI 0 ↔ v = 0 := (nI_leI hv (by decide)).trans ⟨fun h => by omega, fun h => by omega⟩
theorem k_take {w n v : Nat} {μ : MP} {ν : NC} {a : AS} {s : Nat} (hR : RR μ ν a) (hs : s < 2) (hn : n < 8192) (hvv : a 18 (8192 * s + n) = nI v) (hv2 : v ≤ 8193) : ∃ μ' : MP, f_X0_take w μ ν s (nI n) = some (μ', hv v) ∧ RR μ' ν (gThr1 a s n) ∧ (∀ k, k ≠ 3 → k ≠ 13 → μ'.1 k = μ.1 k) ∧ μ'.2 = μ.2 := by
  obtain ⟨z0, z1, z2, z3, z4, z5, z10, z11, z12, z13, -⟩ := id hR.1
  obtain ⟨y1, y2, y3, y4, y5, y6⟩ := hR.2.2.2.2.2.2.1 s hs
  obtain ⟨u, v1, v2, v3, v4, v5⟩ := y5 n hn
  have huv : u = v := (nI_eq (by omega) (by omega)).mp (v1.symm.trans hvv)
  subst huv
  have c0 : ¬ nI n < nI 0 := nIb _ (by omega)
  unfold f_X0_take
  rw [q0, if_neg c0, ltt (by omega), ltt (by omega)]
  simp only [cond_true]
  by_cases c : ν.1 13 s ≤ n
  · rw [if_pos (show nI (ν.1 13 s) ≤ nI n from (nI_leI (by omega) (by omega)).mpr c), v5 c]
    refine ⟨μ, rfl, ?_, fun _ _ _ => rfl, rfl⟩
    rw [gThr1_0 (by rw [v1, v5 c])]; exact hR
  · rw [if_neg (show ¬ nI (ν.1 13 s) ≤ nI n from fun h => c ((nI_leI (by omega) (by omega)).mp h)), ixn (by omega) (by omega), nI_clamp (by omega), v4 (by omega)]
    simp only [cond_true]
    by_cases c1 : u = 0
    · rw [if_pos ((hv_0 v2 v3).mpr c1), c1]
      refine ⟨μ, rfl, ?_, fun _ _ _ => rfl, rfl⟩
      rw [gThr1_0 (by rw [v1, c1])]; exact hR
    · rw [if_neg (fun h => c1 ((hv_0 v2 v3).mp h))]
      have hne : a 18 (8192 * s + n) ≠ nI 0 := by rw [v1]; exact nIne (by omega) (by decide) c1
      refine ⟨uM (uM μ 13 s n 0) 3 s 1 ((uM μ 13 s n 0).1 3 s 1 - 1), rfl, ?_, fun k k1 k2 => ?_, rfl⟩
      · rw [gThr1_p (fun h => hne (by rw [v1] at h ⊢; rw [(nIleV (by omega)).mp h]))]
        have hc := hcnt_up (a 18) s n (nI 0) 8192 (Nat.le_refl _) hn
        rw [if_neg hne, if_pos rfl] at hc
        have hcl := hcnt_le (a 18) s 8192
        have e6 : a 6 s - nI 1 = nI (hcnt (up1 (a 18) (8192 * s + n) (nI 0)) s 8192) := by
          rw [y2, pk_sub (by omega)]
          exact congrArg nI (by omega)
        rw [e6]
        have g18 : (up2 (up2 a 18 (8192 * s + n) (nI 0)) 6 s (nI (hcnt (up1 (a 18) (8192 * s + n) (nI 0)) s 8192))) 18 = up1 (a 18) (8192 * s + n) (nI 0) := by
          funext i; simp (disch := omega) only [up2, up1_n, up1_s]
        refine RR_back hR (fun k k1 k2 => ?_) rfl rfl (fun _ _ _ => rfl) (fun k k1 k2 => ?_) (fun s' hs' => ?_)
        · simp (disch := omega) only [uM, up3, up2, up1_n]
        · funext i; simp (disch := omega) only [up2, up1_n]
        · rw [g18]
          have e3 : (uM (uM μ 13 s n 0) 3 s 1 ((uM μ 13 s n 0).1 3 s 1 - 1)).1 3 s' 1 = if s' = s then μ.1 3 s 1 - 1 else μ.1 3 s' 1 := by
            by_cases hss : s' = s
            · subst hss; rw [if_pos rfl, uM_s, up1_s, uM_n _ _ _ (by omega)]
            · rw [if_neg hss, uM_n _ _ _ (by omega), uM_n _ _ _ (by omega)]
          have e13 : (uM (uM μ 13 s n 0) 3 s 1 ((uM μ 13 s n 0).1 3 s 1 - 1)).1 13 s' = if s' = s then up1 (μ.1 13 s) n 0 else μ.1 13 s' := by
            rw [uM_n _ _ _ (by omega)]
            by_cases hss : s' = s
            · subst hss; rw [if_pos rfl, uM_s]
            · rw [if_neg hss, uM_n _ _ _ (by omega)]
          rw [e3, e13]
          obtain ⟨x1, x2, x3, x4, x5, x6⟩ := hR.2.2.2.2.2.2.1 s' hs'
          by_cases hss : s' = s
          · subst hss
            rw [if_pos rfl, if_pos rfl, up2_s, y1]
            refine ⟨e6, rfl, x3, x4, fun i hi => ?_, fun i h1 h2 => ?_⟩
            · by_cases hin : i = n
              · subst hin
                exact ⟨0, up1_s _ _ _, Or.inl (by decide), by decide, fun _ => up1_s _ _ _, fun _ => rfl⟩
              · obtain ⟨u', t1, t2, t3, t4, t5⟩ := x5 i hi
                exact ⟨u', (up1_n _ _ (by omega)).trans t1, t2, t3, fun h => (up1_n _ _ hin).trans (t4 h), t5⟩
            · rw [up1_n _ _ (by omega)]; exact x6 i h1 h2
          · rw [if_neg hss, if_neg hss, up2_n _ _ (by omega), up2_n _ _ (by omega)]
            refine ⟨x1, ?_, x3, x4, fun i hi => ?_, x6⟩
            · rw [hcnt_out _ _ _ _ _ (Nat.le_refl _) (by omega)]; exact x2
            · obtain ⟨u', t1, t2⟩ := x5 i hi
              exact ⟨u', (up1_n _ _ (by omega)).trans t1, t2⟩
      · simp (disch := omega) only [uM, up3, up2, up1_n]
theorem hvOf {μ : MP} {ν : NC} {a : AS} {s n : Nat} (hR : RR μ ν a) (hs : s < 2) (hn : n < 8192) : ∃ v : Nat, a 18 (8192 * s + n) = nI v ∧ (v ≤ 1 ∨ 4 ≤ v) ∧ v ≤ 8193 := by
  obtain ⟨y1, y2, y3, y4, y5, y6⟩ := hR.2.2.2.2.2.2.1 s hs
  obtain ⟨u, v1, v2, v3, -⟩ := y5 n hn
  exact ⟨u, v1, v2, v3⟩
theorem k_dropL {w e : Nat} {ν : NC} {s : Nat} (hs : s < 2) (he : e ≤ 8191) : ∀ (d n m : Nat) (μ : MP) (a : AS), n + d = e → d < m → RR μ ν a → ∃ μ' : MP, l_X0_dropBetween_2 w ν s m μ (nI e) (nI n) = some (μ', 0) ∧ RR μ' ν (gThrL s d n a) ∧ (∀ k, k ≠ 3 → k ≠ 13 → μ'.1 k = μ.1 k) ∧ μ'.2 = μ.2 := by
  intro d
  induction d with
  | zero =>
    intro n m μ a h1 h2 hR
    obtain ⟨m, rfl⟩ : ∃ m', m = m' + 1 := ⟨m - 1, by omega⟩
    refine ⟨μ, ?_, hR, fun _ _ _ => rfl, rfl⟩
    show b_X0_dropBetween_2 _ w μ ν s (nI e) (nI n) = _
    unfold b_X0_dropBetween_2
    rw [if_pos ((nI_leI (by omega) (by omega)).mpr (by omega))]
  | succ d ih =>
    intro n m μ a h1 h2 hR
    obtain ⟨m, rfl⟩ : ∃ m', m = m' + 1 := ⟨m - 1, by omega⟩
    obtain ⟨y1, y2, y3, y4, y5, y6⟩ := hR.2.2.2.2.2.2.1 s hs
    have hcl := hcnt_le (a 18) s 8192
    show ∃ μ', b_X0_dropBetween_2 (l_X0_dropBetween_2 w ν s m) w μ ν s (nI e) (nI n) = _ ∧ _
    unfold b_X0_dropBetween_2
    have z3 := hR.1.2.2.2.1
    rw [if_neg (fun h => by have := (nI_leI (by omega) (by omega)).mp h; omega), ltt (by omega), y1, y2, q0]
    simp only [cond_true]
    by_cases c : hcnt (a 18) s 8192 = 0
    · rw [if_pos ((nIleV (by omega)).mpr c)]
      refine ⟨μ, rfl, ?_, fun _ _ _ => rfl, rfl⟩
      rw [gThrL_0 s (d + 1) n a (fun i h1 h2 => hcnt_0 (a 18) s c i (by omega))]
      exact hR
    · rw [if_neg (fun h => c ((nIleV (by omega)).mp h))]
      obtain ⟨v, v1, v2, v3⟩ := hvOf (n := n) hR hs (by omega)
      obtain ⟨μ1, t1, t2, t3, t4⟩ := k_take (w := w) hR hs (by omega) v1 v3
      obtain ⟨μ2, r1, r2, r3, r4⟩ := ih (n + 1) m μ1 (gThr1 a s n) (by omega) (by omega) t2
      refine ⟨μ2, ?_, r2, fun k k1 k2 => (r3 k k1 k2).trans (t3 k k1 k2), r4.trans t4⟩
      rw [t1]
      simp only [Option.bind_some, yl]
      rw [q1, nI_add, r1]
      rfl
/-- both sides forget -/
theorem k_forget {w : Nat} {μ : MP} {ν : NC} {a : AS} {s : Nat} (hR : RR μ ν a) (hs : s < 2) : ∃ μ' : MP, f_X5_leaveLine w μ ν s = some (μ', 0) ∧ RR μ' ν (gForgets a s) := by
  obtain ⟨z0, z1, z2, z3, z4, z5, z10, z11, z12, z13, -⟩ := id hR.1
  obtain ⟨y1, y2, y3, y4, y5, y6⟩ := hR.2.2.2.2.2.2.1 s hs
  generalize hm4 : uM (uM (uM (uM μ 1 s 3 0) 1 s 5 0) 2 s 3 0) 2 s 4 0 = m4
  have k4 : ∀ k, k ≠ 1 → k ≠ 2 → m4.1 k = μ.1 k := fun k k1 k2 => by rw [← hm4]; simp (disch := omega) only [uM, up3, up2, up1_n]
  have p4 : m4.2 = μ.2 := by rw [← hm4]; rfl
  have e1 : ∀ s', m4.1 1 s' = if s' = s then up1 (up1 (μ.1 1 s) 3 0) 5 0 else μ.1 1 s' := fun s' => by
    rw [← hm4, uM_n _ _ _ (by omega), uM_n _ _ _ (by omega)]
    by_cases h : s' = s
    · subst h; rw [uM_s, uM_s, if_pos rfl]
    · rw [uM_n _ _ _ (by omega), uM_n _ _ _ (by omega), if_neg h]
  have e2 : ∀ s', m4.1 2 s' = if s' = s then up1 (up1 (μ.1 2 s) 3 0) 4 0 else μ.1 2 s' := fun s' => by
    rw [← hm4]
    by_cases h : s' = s
    · subst h; rw [uM_s, uM_s, uM_n _ _ _ (by omega), uM_n _ _ _ (by omega), if_pos rfl]
    · rw [uM_n _ _ _ (by omega), uM_n _ _ _ (by omega), uM_n _ _ _ (by omega), uM_n _ _ _ (by omega), if_neg h]
  generalize hm6 : up3 (up2 m4.1 13 s (fl (m4.1 13 s) 0 (ν.1 13 s))) 3 s 1 0 = m6
  refine ⟨(m6, m4.2), ?_, ?_⟩
  · unfold f_X5_leaveLine f_X7_clear f_X0_clear
    simp only [yl, ltt (show s < ν.2 1 by omega), ltt (show s < ν.2 2 by omega), ltt (show s < ν.2 3 by omega), cond_true, Option.bind_some, decide_eq_true (show s < ν.2 3 by omega), decide_eq_true (show s < ν.2 13 by omega), decide_eq_true (show ν.1 13 s < 1073741824 by omega), Bool.and_self, hm4, hm6]
  · have f1 : ∀ k, k ≠ 1 → k ≠ 2 → k ≠ 3 → k ≠ 13 → m6 k = μ.1 k := fun k k1 k2 k3 k4' => by
      rw [show m6 k = m4.1 k by rw [← hm6]; simp (disch := omega) only [up3, up2, up1_n]]
      exact k4 k k1 k2
    have f1' : m6 1 = m4.1 1 := by rw [← hm6]; simp (disch := omega) only [up3, up2, up1_n]
    have f2' : m6 2 = m4.1 2 := by rw [← hm6]; simp (disch := omega) only [up3, up2, up1_n]
    have f3' : ∀ s', m6 3 s' 1 = if s' = s then 0 else μ.1 3 s' 1 := fun s' => by
      rw [← hm6]
      by_cases h : s' = s
      · subst h; rw [up3_s, up1_s, if_pos rfl]
      · rw [up3_n _ _ (by omega), up2_n _ _ (by omega), k4 3 (by decide) (by decide), if_neg h]
    have f13' : ∀ s', m6 13 s' = if s' = s then fl (μ.1 13 s) 0 (ν.1 13 s) else μ.1 13 s' := fun s' => by
      rw [← hm6, up3_n _ _ (by omega)]
      by_cases h : s' = s
      · subst h; rw [up2_s, k4 13 (by decide) (by decide), if_pos rfl]
      · rw [up2_n _ _ (by omega), k4 13 (by decide) (by decide), if_neg h]
    have ga : ∀ k, k ≠ 3 → k ≠ 6 → k ≠ 7 → k ≠ 18 → k ≠ 19 → k ≠ 20 → gForgets a s k = a k := fun k k1 k2 k3 k4' k5 k6 => by
      funext i; simp (disch := omega) only [gForgets, zr, up2, up1_n]
    have gs : ∀ k, (k = 3 ∨ k = 6 ∨ k = 7 ∨ k = 19 ∨ k = 20) → ∀ s', gForgets a s k s' = if s' = s then nI 0 else a k s' := fun k hk s' => by
      rcases hk with rfl | rfl | rfl | rfl | rfl <;> by_cases h : s' = s
      all_goals first
        | (subst h; rw [if_pos rfl]; simp (disch := omega) only [gForgets, zr, up2, up1_n, up1_s])
        | (rw [if_neg h]; simp (disch := omega) only [gForgets, zr, up2, up1_n, up1_s])
    have g18 : gForgets a s 18 = fun i => if 8192 * s + 0 ≤ i ∧ i < 8192 * s + 0 + 8192 then nI 0 else a 18 i := by
      funext i; simp (disch := omega) only [gForgets, zr, up2, up1_n, up1_s]
    obtain ⟨h0, hF, h1, h2, h3, h4, h5, h6, h7, h8, h9⟩ := hR
    refine ⟨h0, by rw [show ((m6, m4.2) : MP).2 = μ.2 from p4]; exact hF, ?_, fun s' hs' => ?_, ?_, fun t ht => ?_, fun s' hs' => ?_, ?_, ?_, ?_, ?_⟩
    · show R1 (m6 0 0) _ _ _
      rw [f1 0 (by decide) (by decide) (by decide) (by decide), ga 0 (by decide) (by decide) (by decide) (by decide) (by decide) (by decide)]; exact h1
    · show m6 1 s' 3 = _ ∧ m6 1 s' 4 = _ ∧ m6 1 s' 5 = _ ∧ m6 1 s' 6 = _ ∧ m6 1 s' 8 = _ ∧ (_ → m6 1 s' 7 = _) ∧ _
      rw [f1', e1, gs 3 (by omega), gs 7 (by omega), ga 0 (by decide) (by decide) (by decide) (by decide) (by decide) (by decide), ga 5 (by decide) (by decide) (by decide) (by decide) (by decide) (by decide), ga 8 (by decide) (by decide) (by decide) (by decide) (by decide) (by decide), ga 9 (by decide) (by decide) (by decide) (by decide) (by decide) (by decide), ga 10 (by decide) (by decide) (by decide) (by decide) (by decide) (by decide)]
      obtain ⟨x1, x2, x3, x4, x5, x6, x7, x8⟩ := h2 s' hs'
      by_cases h : s' = s
      · subst h
        rw [if_pos rfl, if_pos rfl, if_pos rfl]
        refine ⟨?_, ?_, up1_s _ _ _, ?_, ?_, fun hu => ?_, Or.inl rfl, x8⟩
        · rw [up1_n _ _ (by decide), up1_s]; rfl
        · rw [up1_n _ _ (by decide), up1_n _ _ (by decide)]; exact x2
        · rw [up1_n _ _ (by decide), up1_n _ _ (by decide)]; exact x4
        · rw [up1_n _ _ (by decide), up1_n _ _ (by decide)]; exact x5
        · rw [up1_n _ _ (by decide), up1_n _ _ (by decide)]; exact x6 hu
      · rw [if_neg h, if_neg h, if_neg h]
        exact ⟨x1, x2, x3, x4, x5, x6, x7, x8⟩
    · show R3 (m6 4) (m4.2 5) (m6 6) (m6 8) _ _ _ _ _ _ _ _ _ _ _ _ _ _
      rw [f1 4 (by decide) (by decide) (by decide) (by decide), f1 6 (by decide) (by decide) (by decide) (by decide), f1 8 (by decide) (by decide) (by decide) (by decide), p4]
      exact h3
    · obtain ⟨h, c, H, x1, x2, x3, x4, x5, x6, x7, x8, x9, x10, x11, x12, x13, x14⟩ := h4 t ht
      show wayR (m6 2 t) (m6 10 t) (m6 11 t) (m6 12 t) _ _ _ _ _ _ t
      rw [f2', e2, f1 10 (by decide) (by decide) (by decide) (by decide), f1 11 (by decide) (by decide) (by decide) (by decide), f1 12 (by decide) (by decide) (by decide) (by decide), gs 19 (by omega), gs 20 (by omega), ga 21 (by decide) (by decide) (by decide) (by decide) (by decide) (by decide)]
      by_cases hts : t = s
      · subst hts
        rw [if_pos rfl, if_pos rfl, if_pos rfl]
        refine ⟨0, 0, 0, ?_, up1_s _ _ _, rfl, rfl, by decide, by decide, by omega, Nat.zero_le _, x9, x10, x11, x12, x13, fun k hk => absurd hk (Nat.not_lt_zero _)⟩
        rw [up1_n _ _ (by decide), up1_s]; rfl
      · rw [if_neg hts, if_neg hts, if_neg hts]
        exact ⟨h, c, H, x1, x2, x3, x4, x5, x6, x7, x8, x9, x10, x11, x12, x13, x14⟩
    · show m6 3 s' 1 = _ ∧ _ ∧ _ ∧ _ ∧ (∀ n, n < 8192 → ∃ v : Nat, _ ∧ _ ∧ _ ∧ (_ → m6 13 s' n = _) ∧ _) ∧ (∀ n, _ → _ → m6 13 s' n = _)
      rw [f3', f13', gs 6 (by omega), g18]
      obtain ⟨x1, x2, x3, x4, x5, x6⟩ := h5 s' hs'
      by_cases h : s' = s
      · subst h
        rw [if_pos rfl, if_pos rfl, if_pos rfl]
        have hz : ∀ i, i < 8192 → (fun i => if 8192 * s' + 0 ≤ i ∧ i < 8192 * s' + 0 + 8192 then nI 0 else a 18 i) (8192 * s' + i) = nI 0 := fun i hi => if_pos (by omega)
        have hc : ∀ N, N ≤ 8192 → hcnt (fun i => if 8192 * s' + 0 ≤ i ∧ i < 8192 * s' + 0 + 8192 then nI 0 else a 18 i) s' N = 0 := by
          intro N
          induction N with
          | zero => intro _; rfl
          | succ N ih =>
            intro hN
            unfold hcnt
            have hzz := hz N (by omega)
            dsimp only at hzz
            rw [ih (by omega), if_pos hzz]
        refine ⟨rfl, by rw [hc 8192 (Nat.le_refl _)], x3, x4, fun i hi => ⟨0, hz i hi, Or.inl (by decide), by decide, fun h => ?_, fun _ => rfl⟩, fun i hi1 hi2 => ?_⟩
        · unfold fl; rw [if_pos h]; rfl
        · unfold fl; rw [if_pos hi2]; rfl
      · rw [if_neg h, if_neg h, if_neg h]
        have hz : ∀ i, i < 8192 → (fun i => if 8192 * s + 0 ≤ i ∧ i < 8192 * s + 0 + 8192 then nI 0 else a 18 i) (8192 * s' + i) = a 18 (8192 * s' + i) := fun i hi => if_neg (by omega)
        have hc : ∀ N, N ≤ 8192 → hcnt (fun i => if 8192 * s + 0 ≤ i ∧ i < 8192 * s + 0 + 8192 then nI 0 else a 18 i) s' N = hcnt (a 18) s' N := by
          intro N
          induction N with
          | zero => intro _; rfl
          | succ N ih =>
            intro hN
            unfold hcnt
            have hzz := hz N (by omega)
            dsimp only at hzz
            rw [ih (by omega), hzz]
        refine ⟨x1, by rw [hc 8192 (Nat.le_refl _)]; exact x2, x3, x4, fun i hi => ?_, x6⟩
        obtain ⟨u, t1, t2⟩ := x5 i hi
        exact ⟨u, (hz i hi).trans t1, t2⟩
    · show R6 (m6 4) (m4.2 5) _ _ (m6 20) (m6 21) _ _ _ _ _ _ _ _ _
      rw [f1 4 (by decide) (by decide) (by decide) (by decide), f1 20 (by decide) (by decide) (by decide) (by decide), f1 21 (by decide) (by decide) (by decide) (by decide), p4]
      exact h6
    · show R7 (m6 4) (m4.2 5) (m4.2 23) _ _ (m6 23) _ _ _ _ _ _ _ _ _ _
      rw [f1 4 (by decide) (by decide) (by decide) (by decide), f1 23 (by decide) (by decide) (by decide) (by decide), p4]
      exact h7
    · show R8 (m4.2 24) _ (m6 25) _ _
      rw [f1 25 (by decide) (by decide) (by decide) (by decide), p4]
      exact h8
    · show R9 (m6 4) (m4.2 5) _ _ _ _ _ _ _ _
      rw [f1 4 (by decide) (by decide) (by decide) (by decide), p4]
      exact h9
theorem k_down {w : Nat} {μ : MP} {ν : NC} {a : AS} (hR : RR μ ν a) : ∃ μ' : MP, f_X8_goDown w μ ν = some (μ', 0) ∧ RR μ' ν (gDown a) := by
  have hR1 : RR (uM μ 0 0 8 0) ν (up2 a 0 2 (nI 0)) := by
    obtain ⟨h0, hF, h1, h2, h3, h4, h5, h6, h7, h8, h9⟩ := hR
    refine ⟨h0, hF, ⟨?_, h1.2.1, h1.2.2.1, Or.inl rfl⟩, fun s hs => ?_, h3, h4, h5, h6, h7, h8, h9⟩
    · exact rfl
    · obtain ⟨x1, x2, x3, x4, x5, x6, x7⟩ := h2 s hs
      exact ⟨x1, x2, x3, x4, x5, fun hu => absurd rfl hu, x7⟩
  obtain ⟨μ1, t1, t2⟩ := k_forget (w := w) (s := 0) hR1 (by decide)
  obtain ⟨μ2, r1, r2⟩ := k_forget (w := w) (s := 1) t2 (by decide)
  refine ⟨μ2, ?_, r2⟩
  have z0 := hR.1.1
  have z1 := hR.1.2.1
  unfold f_X8_goDown
  simp only [ltt z0, cond_true, yl, ltt (show 0 < ν.2 1 by omega), ltt (show 1 < ν.2 1 by omega), t1, Option.bind_some, r1]
