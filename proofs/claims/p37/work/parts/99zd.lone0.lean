/-! What comes: the answer, holding back, asking. -/
variable {Hh Hg : Nat → Nat}
theorem goes_bd (a : AS) (s n f : Nat) : tn (gGoes a s n f 20 (1 - s)) ≤ tn (a 20 (1 - s)) + 1 := by
  unfold gGoes
  rw [up2_n _ _ (by omega), up2_s]
  exact tn_nI_le _
theorem ans1_bd (s : Nat) (x : AS × Nat) (n : Nat) : tn ((gAns1 s x n).1 20 (1 - s)) ≤ tn (x.1 20 (1 - s)) + 2 := by
  have hl : gLeave x.1 (8192 * s + n) 20 (1 - s) = x.1 20 (1 - s) := gLeave_k _ _ _ _ (by decide)
  unfold gAns1
  split
  · show tn (gLeave x.1 (8192 * s + n) 20 (1 - s)) ≤ _
    rw [hl]; omega
  · show tn (gGoes _ s n 0 20 (1 - s)) ≤ _
    refine Nat.le_trans (goes_bd _ _ _ _) ?_
    rw [up2_n _ _ (by omega)]
    split
    · have := goes_bd (gLeave x.1 (8192 * s + n)) s x.2 n
      rw [hl] at this
      omega
    · rw [hl]; omega
theorem ansL_bd (s : Nat) : ∀ (d n : Nat) (x : AS × Nat), tn ((gAnsL s d n x).1 20 (1 - s)) ≤ tn (x.1 20 (1 - s)) + 2 * d
  | 0, _, _ => Nat.le_refl _
  | d + 1, n, x => by
    have h1 := ansL_bd s d (n + 1) (gAns1 s x n)
    have h2 := ans1_bd s x n
    show tn ((gAnsL s d (n + 1) (gAns1 s x n)).1 20 (1 - s)) ≤ _
    omega
theorem ans_bd (a : AS) (s f : Nat) : tn (gAnswers a s f 20 (1 - s)) ≤ tn (a 20 (1 - s)) + 2 * tn (a 4 s) + 1 := by
  have h1 := ansL_bd s (tn (a 4 s) + 1 - max f 1) (max f 1) (a, 0)
  replace h1 : tn ((gAnsL s (tn (a 4 s) + 1 - max f 1) (max f 1) (a, 0)).1 20 (1 - s)) ≤ tn (a 20 (1 - s)) + 2 * (tn (a 4 s) + 1 - max f 1) := h1
  unfold gAnswers gAnsE
  split
  · have := goes_bd (gAnsL s (tn (a 4 s) + 1 - max f 1) (max f 1) (a, 0)).1 s (gAnsL s (tn (a 4 s) + 1 - max f 1) (max f 1) (a, 0)).2 (tn (a 4 s) + 1)
    omega
  · omega
theorem lk_answer2 {w s f N H c : Nat} {b a : AS} (h : LR Hh b a) (hs : s < 2) (hw : 100 < w) (e4 : a 4 s = nI N) (hN : N < 64) (hf : 1 ≤ f) (hf2 : f ≤ 100) (hA : ansI a s H c) (hc : c + 2 * N + 2 ≤ 240) (hO : ∀ i, 1 ≤ i → i ≤ N → a 11 (8192 * s + i) = nI 5 → tn (a 14 (8192 * s + i)) < tn (a 0 22)) : ∃ b', f_L_answer w b (nI s) (nI f) = some (b', 0) ∧ LR Hh b' (gAnswers a s f) := by
  by_cases cf : f ≤ N + 1
  · exact lk_answer h hs hw e4 hN hf cf hA hc hO
  have g4 : b 1 (4 + s) = nI N := (h.2.1.2.2.2.2.2.2 s hs).2.1.trans e4
  obtain ⟨m, rfl⟩ : ∃ m, w = m + 1 := ⟨w - 1, by omega⟩
  have key : l_L_answer_15 (m + 1) (m + 1) b (nI s) (0 : Int32) (nI N) (nI f) = some (b, 0) := by
    show b_L_answer_15 (l_L_answer_15 (m + 1) m) (m + 1) b (nI s) (0 : Int32) (nI N) (nI f) = _
    unfold b_L_answer_15
    rw [if_pos (show nI N < nI f from (nI_ltI (by omega) (by omega)).mpr (by omega)), if_pos (show (0 : Int32) ≤ 0 by decide)]
  refine ⟨b, ?_, ?_⟩
  · unfold f_L_answer
    rcases (show s = 0 ∨ s = 1 by omega) with rfl | rfl
    · show l_L_answer_15 (m + 1) (m + 1) b (nI 0) (0 : Int32) (b 1 4) (nI f) = _
      rw [show b 1 4 = nI N from g4]
      exact key
    · show l_L_answer_15 (m + 1) (m + 1) b (nI 1) (0 : Int32) (b 1 5) (nI f) = _
      rw [show b 1 5 = nI N from g4]
      exact key
  · have e : gAnswers a s f = a := by
      unfold gAnswers
      rw [e4, tnI (by omega), Nat.max_eq_left hf, show N + 1 - f = 0 by omega]
      rfl
    rw [e]
    exact h
/-- held back -/
theorem lr_hold {b a : AS} {s x f : Nat} (hs : s < 2) (h : LR Hh b a) (hx : x < 64) (hf : f ≤ 64) (hf1 : f ≠ 1) : LR Hh (up2 b (6 + s) x (nI (if f = 0 then 1 else 1 + f))) (gHold a s x f) := by
  obtain ⟨l0, l1, l2, l3, l4, l5, l6, l7, l8⟩ := h
  have er : ∀ k, k ≠ 6 + s → up2 b (6 + s) x (nI (if f = 0 then 1 else 1 + f)) k = b k := fun k hk => up2_k _ _ hk
  unfold gHold LR
  rw [er 1 (by omega), er 8 (by omega), er 9 (by omega), er 10 (by omega), er 11 (by omega), er 12 (by omega), er 13 (by omega), er 14 (by omega)]
  refine ⟨l0, l1, fun t ht => ?_, fun t ht => ?_, fun t ht => ?_, l5, l6, l7, l8⟩
  · rw [er _ (by omega)]; exact l2 t ht
  · rw [er _ (by omega)]; exact l3 t ht
  · intro n hn hle
    show ∃ v : Nat, up1 (a 18) (8192 * s + x) (if f = 0 then nI 1 else nI (f + 2)) (8192 * t + n) = nI v ∧ _
    by_cases e : t = s
    · subst e
      show ∃ v : Nat, _ ∧ _ ∧ _ ∧ (n < 64 → up1 b (6 + t) (up1 (b (6 + t)) x (nI (if f = 0 then 1 else 1 + f))) (6 + t) n = _) ∧ _
      rw [up1_s]
      by_cases en : n = x
      · subst en
        rw [up1_s, up1_s]
        refine ⟨if f = 0 then 1 else f + 2, ?_, ?_, ?_, fun _ => ?_, fun h64 => by omega⟩
        · split <;> rfl
        · split <;> omega
        · split <;> omega
        · congr 1
          split <;> (split <;> omega)
      · rw [up1_n _ _ (by omega), up1_n _ _ en]
        exact l4 t ht n hn hle
    · rw [up1_n _ _ (by omega), er _ (by omega)]
      exact l4 t ht n hn hle
/-- asking -/
theorem LR_1 {b a : AS} (h : LR Hh b a) {s : Nat} (hs : s < 2) : b 1 0 = a 0 1 ∧ b 1 (2 + s) = a 3 s ∧ b 1 (4 + s) = a 4 s ∧ b 1 (6 + s) = a 5 s ∧ b 1 (8 + s) = a 7 s ∧ b 1 (10 + s) = a 8 s ∧ b 1 (12 + s) = a 9 s ∧ b 1 (14 + s) = a 10 s ∧ b 1 (16 + s) = a 20 s := ⟨h.2.1.1, h.2.1.2.2.2.2.2.2 s hs⟩
theorem lk_307 {w s E : Nat} {b a : AS} (h : LR Hh b a) (hs : s < 2) (e5 : a 5 s = nI E) (hE : 1 ≤ E) (hE2 : E ≤ 100) (hu : a 0 2 = nI 0 ∨ a 0 2 = nI 1) (hN : tn (a 4 s) + 1 ≤ 63) (hc : tn (a 20 (1 - s)) + 1 ≤ 240) : ∃ b', b_L_one_307 w b (nI s) = some (b', 0) ∧ LR Hh b' (gSends (up2 (up2 a 7 s (a 5 s)) 8 s (a 0 1)) s (nI 3) (a 5 s) (nI 0) (nI 0) (nI 0)) := by
  obtain ⟨r0, r2, r4, r6, r8, r10, -⟩ := LR_1 h hs
  have l1 := lr_ask (v := a 5 s) hs h
  have l2 := lr_when (v := a 0 1) hs l1
  obtain ⟨b', s1, s2⟩ := lk_send (w := w) (s := s) (kd := 3) (o1 := E) (o2 := 0) (o3 := 0) (o4 := 0) l2 hs hu hN hc (by decide) hE2 (by decide) (by decide) (by decide) (fun _ => hE)
  refine ⟨b', ?_, ?_⟩
  · unfold b_L_one_307
    rw [show (6 : Int32) + nI s = nI (6 + s) from nI_add 6 s, show (8 : Int32) + nI s = nI (8 + s) from nI_add 8 s, show (10 : Int32) + nI s = nI (10 + s) from nI_add 10 s, ixn (show 6 + s < 22 by omega) (by decide), ixn (show 8 + s < 22 by omega) (by decide), ixn (show 10 + s < 22 by omega) (by decide), nI_clamp (show 6 + s < 2 ^ 31 by omega), nI_clamp (show 8 + s < 2 ^ 31 by omega), nI_clamp (show 10 + s < 2 ^ 31 by omega), r6]
    simp only [cond_true, yl, show ixB (0 : Int32) 22 = true from rfl, show (0 : Int32).toNatClampNeg = 0 from rfl]
    have w0 : up2 b 1 (8 + s) (a 5 s) 1 0 = a 0 1 := (up2_n _ _ (by omega)).trans r0
    rw [w0]
    have w6 : up2 (up2 b 1 (8 + s) (a 5 s)) 1 (10 + s) (a 0 1) 1 (6 + s) = nI E := (up2_n _ _ (by omega)).trans ((up2_n _ _ (by omega)).trans (r6.trans e5))
    rw [w6, show f_L_send w (up2 (up2 b 1 (8 + s) (a 5 s)) 1 (10 + s) (a 0 1)) (nI s) (3 : Int32) (nI E) (0 : Int32) (0 : Int32) (0 : Int32) = some (b', 0) from s1]
    rfl
  · rw [← e5] at s2
    exact s2
theorem lk_273 {w s E x f : Nat} {b a : AS} (h : LR Hh b a) (hs : s < 2) (hx : x < 64) (hf : f ≤ 64) (hf1 : f ≠ 1) (e5 : a 5 s = nI E) (hE : 1 ≤ E) (hE2 : E ≤ 100) (hu : a 0 2 = nI 0 ∨ a 0 2 = nI 1) (hN : tn (a 4 s) + 1 ≤ 63) (hc : tn (a 20 (1 - s)) + 1 ≤ 240) : ∃ b', b_L_one_258 w b (nI s) (nI x) (nI f) (6 + s) = some (b', 0) ∧ LR Hh b' (gAsk (gHold a s x f) s) := by
  have hL := lr_hold hs h hx hf hf1
  have in6 : inB (6 + s) 64 = true := by rcases (show s = 0 ∨ s = 1 by omega) with rfl | rfl <;> decide
  have hr : ∀ k, k ≠ 6 → k ≠ 18 → gHold a s x f k = a k := fun k h1 h2 => by unfold gHold; rw [up2_k _ _ h2, up2_k _ _ h1]
  have e258 : b_L_one_258 w b (nI s) (nI x) (nI f) (6 + s) = b_L_one_273 w b (nI s) (nI (if f = 0 then 1 else 1 + f)) (nI x) (6 + s) := by
    unfold b_L_one_258
    by_cases c : f = 0
    · rw [if_pos (show nI f ≤ (0 : Int32) by rw [c]; decide), if_pos c]; rfl
    · rw [if_neg (show ¬ nI f ≤ (0 : Int32) from fun e => c (by have := (nI_leI (a := f) (b := 0) (by omega) (by decide)).mp e; omega)), if_neg c, show (1 : Int32) + nI f = nI (1 + f) from nI_add 1 f]
  rw [e258]
  have e5' : gHold a s x f 5 s = nI E := by rw [hr 5 (by decide) (by decide)]; exact e5
  obtain ⟨r0, r2, r4, r6, r8, r10, -⟩ := LR_1 hL hs
  obtain ⟨b', q1, q2⟩ := lk_307 (w := w) hL hs e5' hE hE2 (by rw [hr 0 (by decide) (by decide)]; exact hu) (by rw [hr 4 (by decide) (by decide)]; exact hN) (by rw [hr 20 (by decide) (by decide)]; exact hc)
  unfold b_L_one_273 gAsk
  rw [in6, ixn (show x < 64 by omega) (by decide), nI_clamp (show x < 2 ^ 31 by omega)]
  simp only [cond_true, yl]
  generalize up2 b (6 + s) x (nI (if f = 0 then 1 else 1 + f)) = b1 at *
  generalize gHold a s x f = a1 at *
  rw [show (6 : Int32) + nI s = nI (6 + s) from nI_add 6 s, show (8 : Int32) + nI s = nI (8 + s) from nI_add 8 s, show (10 : Int32) + nI s = nI (10 + s) from nI_add 10 s, ixn (show 6 + s < 22 by omega) (by decide), ixn (show 8 + s < 22 by omega) (by decide), ixn (show 10 + s < 22 by omega) (by decide), nI_clamp (show 6 + s < 2 ^ 31 by omega), nI_clamp (show 8 + s < 2 ^ 31 by omega), nI_clamp (show 10 + s < 2 ^ 31 by omega), r6, r8, r10]
  simp only [cond_true, show ixB (0 : Int32) 22 = true from rfl, show (0 : Int32).toNatClampNeg = 0 from rfl]
  rw [r0]
  by_cases c1 : a1 7 s = a1 5 s
  · rw [if_pos c1]
    by_cases c2 : a1 0 1 - a1 8 s < nI 5
    · rw [if_neg (show ¬ (5 : Int32) ≤ a1 0 1 - a1 8 s from Int32.not_le.mpr c2), if_pos (show a1 7 s = a1 5 s ∧ a1 0 1 - a1 8 s < nI 5 from ⟨c1, c2⟩)]
      exact ⟨b1, rfl, hL⟩
    · rw [if_pos (show (5 : Int32) ≤ a1 0 1 - a1 8 s from Int32.not_lt.mp c2), if_neg (show ¬ (a1 7 s = a1 5 s ∧ a1 0 1 - a1 8 s < nI 5) from fun z => c2 z.2)]
      exact ⟨b', q1, q2⟩
  · rw [if_neg c1, if_neg (show ¬ (a1 7 s = a1 5 s ∧ a1 0 1 - a1 8 s < nI 5) from fun z => c1 z.1)]
    exact ⟨b', q1, q2⟩
