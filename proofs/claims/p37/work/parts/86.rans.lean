/-! The reference's answers. -/
/-- an order that is old; a message that must not go again -/
abbrev old (a : AS) (q : Nat) : Prop := a 11 q = nI 5 ∧ ¬ a 0 1 - a 12 q ≤ nI 20 ∧ a 13 q = nI 0
abbrev stays (a : AS) (q : Nat) : Prop := a 11 q < nI 5 ∨ old a q
def gLeave (a : AS) (q : Nat) : AS := if old a q then up2 a 29 (tn (a 14 q)) (nI 1) else a
theorem r_stays {w : Nat} {a : AS} {s n o : Nat} (hs : s < 2) (hn : n ≤ 8191) (h : a 11 (8192 * s + n) = nI 5 → a 14 (8192 * s + n) = nI o ∧ o < 40) : f_X9_staysAway w a (nI s) (nI n) = some (gLeave a (8192 * s + n), if stays a (8192 * s + n) then nI 1 else nI 0) := by
  have key : b_X9_staysAway_67 w a (nI (8192 * s + n)) (nI 0) = some (a, if a 11 (8192 * s + n) < nI 5 then nI 1 else nI 0) := by
    by_cases h5 : a 11 (8192 * s + n) < nI 5
    · simp (disch := omega) only [b_X9_staysAway_67, h5, if_true, yl, cond_true, cond_false, Option.bind_some, ixn, nI_clamp, nI_add, pk_mul, pk_sub, pk_rem, pk_div, up2_s, up2_n, up1_s, up1_n, mdn, nar0, nar1, q0, q1, q2, q3, q4, q5, q6, q7, q8, q10, q15, q20, q25, q40, q50, q80, q100, q200, q256, q8192, q16384, q65536]
    · simp (disch := omega) only [b_X9_staysAway_67, h5, if_true, if_false, yl, cond_true, cond_false, Option.bind_some, ixn, nI_clamp, nI_add, pk_mul, pk_sub, pk_rem, pk_div, up2_s, up2_n, up1_s, up1_n, mdn, nar0, nar1, q0, q1, q2, q3, q4, q5, q6, q7, q8, q10, q15, q20, q25, q40, q50, q80, q100, q200, q256, q8192, q16384, q65536]
  have hno : ¬ old a (8192 * s + n) → f_X9_staysAway w a (nI s) (nI n) = b_X9_staysAway_67 w a (nI (8192 * s + n)) (nI 0) := fun hno => by
    by_cases h1 : a 11 (8192 * s + n) = nI 5
    · by_cases h2 : a 0 1 - a 12 (8192 * s + n) ≤ nI 20
      · simp (disch := omega) only [f_X9_staysAway, b_X9_staysAway_47, b_X9_staysAway_48, h1, h2, if_true, yl, cond_true, cond_false, Option.bind_some, ixn, nI_clamp, nI_add, pk_mul, pk_sub, pk_rem, pk_div, up2_s, up2_n, up1_s, up1_n, mdn, nar0, nar1, q0, q1, q2, q3, q4, q5, q6, q7, q8, q10, q15, q20, q25, q40, q50, q80, q100, q200, q256, q8192, q16384, q65536]
      · by_cases h3 : a 13 (8192 * s + n) = nI 0
        · exact absurd ⟨h1, h2, h3⟩ hno
        · simp (disch := omega) only [f_X9_staysAway, b_X9_staysAway_47, b_X9_staysAway_48, h1, h2, h3, if_true, if_false, yl, cond_true, cond_false, Option.bind_some, ixn, nI_clamp, nI_add, pk_mul, pk_sub, pk_rem, pk_div, up2_s, up2_n, up1_s, up1_n, mdn, nar0, nar1, q0, q1, q2, q3, q4, q5, q6, q7, q8, q10, q15, q20, q25, q40, q50, q80, q100, q200, q256, q8192, q16384, q65536]
    · simp (disch := omega) only [f_X9_staysAway, b_X9_staysAway_47, b_X9_staysAway_48, h1, if_true, if_false, yl, cond_true, cond_false, Option.bind_some, ixn, nI_clamp, nI_add, pk_mul, pk_sub, pk_rem, pk_div, up2_s, up2_n, up1_s, up1_n, mdn, nar0, nar1, q0, q1, q2, q3, q4, q5, q6, q7, q8, q10, q15, q20, q25, q40, q50, q80, q100, q200, q256, q8192, q16384, q65536]
  by_cases ho : old a (8192 * s + n)
  · obtain ⟨h1, h2, h3⟩ := id ho
    obtain ⟨h4, h5⟩ := h h1
    have h6 : ¬ nI 5 < nI 5 := by decide
    have h7 : ¬ nI 1 = nI 0 := by decide
    rw [if_pos (Or.inr ho), show gLeave a (8192 * s + n) = up2 a 29 (tn (a 14 (8192 * s + n))) (nI 1) from if_pos ho]
    simp (disch := omega) only [f_X9_staysAway, b_X9_staysAway_48, b_X9_staysAway_67, h1, h2, h3, h4, h6, h7, if_true, if_false, yl, cond_true, cond_false, Option.bind_some, ixn, nI_clamp, nI_add, pk_mul, pk_sub, pk_rem, pk_div, up2_s, up2_n, up1_s, up1_n, mdn, nar0, nar1, q0, q1, q2, q3, q4, q5, q6, q7, q8, q10, q15, q20, q25, q40, q50, q80, q100, q200, q256, q8192, q16384, q65536]
  · rw [hno ho, key]
    unfold gLeave stays
    rw [if_neg ho]
    simp only [ho, or_false]
/-- one message of an answer: the state and where a gap began (0: none) -/
def gAns1 (s : Nat) (x : AS × Nat) (n : Nat) : AS × Nat :=
  if stays x.1 (8192 * s + n) then (gLeave x.1 (8192 * s + n), if x.2 = 0 then n else x.2)
  else (gGoes (up2 (if 0 < x.2 then gGoes (gLeave x.1 (8192 * s + n)) s x.2 n else gLeave x.1 (8192 * s + n)) 13 (8192 * s + n) (nI 1)) s n 0, 0)
def gAnsL (s : Nat) : Nat → Nat → AS × Nat → AS × Nat
  | 0, _, x => x
  | d + 1, n, x => gAnsL s d (n + 1) (gAns1 s x n)
def gAnsE (s last : Nat) (x : AS × Nat) : AS := if 0 < x.2 then gGoes x.1 s x.2 (last + 1) else x.1
def gAnswers (a : AS) (s from_ : Nat) : AS := gAnsE s (tn (a 4 s)) (gAnsL s (tn (a 4 s) + 1 - max from_ 1) (max from_ 1) (a, 0))
/-- what an answer keeps of the ring and the messages -/
abbrev ansI (a : AS) (s h k : Nat) : Prop := a 19 (1 - s) = nI h ∧ h < 65536 ∧ a 20 (1 - s) = nI k
theorem gLeave_k (a : AS) (q k i : Nat) (hk : k ≠ 29) : gLeave a q k i = a k i := by
  unfold gLeave
  by_cases ho : old a q
  · rw [if_pos ho, up2_n _ _ (by omega)]
  · rw [if_neg ho]
theorem gGoes_k (a : AS) (s n f k i : Nat) (h1 : k ≠ 21) (h2 : k ≠ 20) (h3 : k ≠ 9) : gGoes a s n f k i = a k i := by
  unfold gGoes
  rw [up2_n _ _ (by omega), up2_n _ _ (by omega), up2_n _ _ (by omega)]
theorem gGoes_20 (a : AS) (s n f k : Nat) (e : a 20 (1 - s) = nI k) (hk : k < 2 ^ 31) : gGoes a s n f 20 (1 - s) = nI (k + 1) := by
  unfold gGoes
  rw [up2_n _ _ (by omega), up2_s, e, tn, nI_clamp hk]
theorem gAns1_k (s : Nat) (x : AS × Nat) (n k i : Nat) (h1 : k ≠ 29) (h2 : k ≠ 21) (h3 : k ≠ 20) (h4 : k ≠ 9) (h5 : k ≠ 13) : (gAns1 s x n).1 k i = x.1 k i := by
  unfold gAns1
  by_cases hst : stays x.1 (8192 * s + n)
  · rw [if_pos hst]
    exact gLeave_k _ _ _ _ h1
  · rw [if_neg hst]
    show gGoes _ s n 0 k i = _
    rw [gGoes_k _ _ _ _ _ _ h2 h3 h4, up2_n _ _ (by omega)]
    by_cases hx : 0 < x.2
    · rw [if_pos hx, gGoes_k _ _ _ _ _ _ h2 h3 h4, gLeave_k _ _ _ _ h1]
    · rw [if_neg hx, gLeave_k _ _ _ _ h1]
theorem gAns1_r (s : Nat) (x : AS × Nat) (n h k : Nat) (e : ansI x.1 s h k) (hk : k + 2 < 2 ^ 31) : ∃ k', ansI (gAns1 s x n).1 s h k' ∧ k ≤ k' ∧ k' ≤ k + 2 := by
  obtain ⟨e1, e2, e3⟩ := e
  have h19 : (gAns1 s x n).1 19 (1 - s) = nI h := (gAns1_k _ _ _ _ _ (by decide) (by decide) (by decide) (by decide) (by decide)).trans e1
  have hl : gLeave x.1 (8192 * s + n) 20 (1 - s) = nI k := (gLeave_k _ _ _ _ (by decide)).trans e3
  unfold gAns1 at h19 ⊢
  by_cases hst : stays x.1 (8192 * s + n)
  · rw [if_pos hst] at h19 ⊢
    exact ⟨k, ⟨h19, e2, hl⟩, by omega, by omega⟩
  · rw [if_neg hst] at h19 ⊢
    by_cases hx : 0 < x.2
    · rw [if_pos hx] at h19 ⊢
      exact ⟨k + 1 + 1, ⟨h19, e2, gGoes_20 _ _ _ _ _ (by rw [up2_n _ _ (by omega)]; exact gGoes_20 _ _ _ _ _ hl (by omega)) (by omega)⟩, by omega, by omega⟩
    · rw [if_neg hx] at h19 ⊢
      exact ⟨k + 1, ⟨h19, e2, gGoes_20 _ _ _ _ _ (by rw [up2_n _ _ (by omega)]; exact hl) (by omega)⟩, by omega, by omega⟩
/-- the orders that messages speak of are there -/
def ordOk (a : AS) (s : Nat) : Prop := ∀ n : Nat, 1 ≤ n → n ≤ tn (a 4 s) → a 11 (8192 * s + n) = nI 5 → ∃ o, a 14 (8192 * s + n) = nI o ∧ o < 40
theorem r_answersL {w s last : Nat} (hs : s < 2) (hl : last ≤ 8190) : ∀ (d n m : Nat) (x : AS × Nat) (h k : Nat), n + d = last + 1 → 1 ≤ n → d < m → ansI x.1 s h k → k + 2 * d ≤ 131070 → x.2 ≤ last → tn (x.1 4 s) = last → ordOk x.1 s → l_X9_answers_22 w m x.1 (nI s) (nI last) (nI x.2) (nI n) = some (gAnsE s last (gAnsL s d n x), 0) := by
  intro d
  induction d with
  | zero =>
    intro n m x h k h1 hn h2 e hk hx e4 ho
    obtain ⟨m, rfl⟩ : ∃ m', m = m' + 1 := ⟨m - 1, by omega⟩
    obtain ⟨e1, e2, e3⟩ := e
    have c1 : last < n := by omega
    unfold gAnsL gAnsE
    by_cases c2 : 0 < x.2
    · have c3 : ¬ x.2 ≤ 0 := by omega
      simp (disch := omega) only [l_X9_answers_22, b_X9_answers_22, nI_eq, nI_leI, nI_ltI, c1, c2, c3, if_true, if_false, f_X9_goes, f_X9_placeOf, gGoes, pl, e1, e3, yl, cond_true, cond_false, Option.bind_some, ixn, nI_clamp, nI_add, pk_mul, pk_sub, pk_rem, pk_div, up2_s, up2_n, up1_s, up1_n, mdn, nar0, nar1, q0, q1, q2, q3, q4, q5, q6, q7, q8, q10, q15, q20, q25, q40, q50, q80, q100, q200, q256, q8192, q16384, q65536]
    · have c3 : x.2 ≤ 0 := by omega
      simp (disch := omega) only [l_X9_answers_22, b_X9_answers_22, nI_eq, nI_leI, nI_ltI, c1, c2, c3, if_true, if_false, yl, cond_true, cond_false, Option.bind_some, ixn, nI_clamp, nI_add, pk_mul, pk_sub, pk_rem, pk_div, up2_s, up2_n, up1_s, up1_n, mdn, nar0, nar1, q0, q1, q2, q3, q4, q5, q6, q7, q8, q10, q15, q20, q25, q40, q50, q80, q100, q200, q256, q8192, q16384, q65536]
  | succ d ih =>
    intro n m x h k h1 hn h2 e hk hx e4 ho
    obtain ⟨m, rfl⟩ : ∃ m', m = m' + 1 := ⟨m - 1, by omega⟩
    have c1 : ¬ last < n := by omega
    obtain ⟨k', e', hk1, hk2⟩ := gAns1_r s x n h k e (by omega)
    have e4' : tn ((gAns1 s x n).1 4 s) = last := by rw [gAns1_k _ _ _ _ _ (by decide) (by decide) (by decide) (by decide) (by decide)]; exact e4
    have ho' : ordOk (gAns1 s x n).1 s := fun j q1 q2 q3 => by
      rw [gAns1_k _ _ _ _ _ (by decide) (by decide) (by decide) (by decide) (by decide)] at q2 q3
      rw [gAns1_k _ _ _ _ _ (by decide) (by decide) (by decide) (by decide) (by decide)]
      exact ho j q1 q2 q3
    have hx' : (gAns1 s x n).2 ≤ last := by
      unfold gAns1
      split
      · show (if x.2 = 0 then n else x.2) ≤ last
        split <;> omega
      · exact Nat.zero_le _
    have hr := ih (n + 1) m (gAns1 s x n) h k' (by omega) (by omega) (by omega) e' (by omega) hx' e4' ho'
    have hsty : ∃ o, x.1 11 (8192 * s + n) = nI 5 → x.1 14 (8192 * s + n) = nI o ∧ o < 40 := by
      by_cases h5 : x.1 11 (8192 * s + n) = nI 5
      · obtain ⟨o, q1, q2⟩ := ho n hn (by omega) h5
        exact ⟨o, fun _ => ⟨q1, q2⟩⟩
      · exact ⟨0, fun h => absurd h h5⟩
    obtain ⟨o, hsty⟩ := hsty
    obtain ⟨e1, e2, e3⟩ := e
    have g19 : gLeave x.1 (8192 * s + n) 19 (1 - s) = nI h := (gLeave_k _ _ _ _ (by decide)).trans e1
    have g20 : gLeave x.1 (8192 * s + n) 20 (1 - s) = nI k := (gLeave_k _ _ _ _ (by decide)).trans e3
    show _ = some (gAnsE s last (gAnsL s d (n + 1) (gAns1 s x n)), 0)
    rw [← hr]
    have st := r_stays (w := w) hs (show n ≤ 8191 by omega) hsty
    have n10 : ¬ nI 1 = nI 0 := by decide
    by_cases hst : stays x.1 (8192 * s + n)
    · rw [if_pos hst] at st
      have hg : gAns1 s x n = (gLeave x.1 (8192 * s + n), if x.2 = 0 then n else x.2) := if_pos hst
      rw [hg]
      by_cases c2 : x.2 = 0
      · simp (disch := omega) only [l_X9_answers_22, b_X9_answers_22, b_X9_answers_50, b_X9_answers_94, st, nI_eq, nI_leI, nI_ltI, c1, c2, n10, if_true, if_false, yl, cond_true, cond_false, Option.bind_some, ixn, nI_clamp, nI_add, pk_mul, pk_sub, pk_rem, pk_div, up2_s, up2_n, up1_s, up1_n, mdn, nar0, nar1, q0, q1, q2, q3, q4, q5, q6, q7, q8, q10, q15, q20, q25, q40, q50, q80, q100, q200, q256, q8192, q16384, q65536]
      · simp (disch := omega) only [l_X9_answers_22, b_X9_answers_22, b_X9_answers_50, b_X9_answers_94, st, nI_eq, nI_leI, nI_ltI, c1, c2, n10, if_true, if_false, yl, cond_true, cond_false, Option.bind_some, ixn, nI_clamp, nI_add, pk_mul, pk_sub, pk_rem, pk_div, up2_s, up2_n, up1_s, up1_n, mdn, nar0, nar1, q0, q1, q2, q3, q4, q5, q6, q7, q8, q10, q15, q20, q25, q40, q50, q80, q100, q200, q256, q8192, q16384, q65536]
    · rw [if_neg hst] at st
      have hg : gAns1 s x n = (gGoes (up2 (if 0 < x.2 then gGoes (gLeave x.1 (8192 * s + n)) s x.2 n else gLeave x.1 (8192 * s + n)) 13 (8192 * s + n) (nI 1)) s n 0, 0) := if_neg hst
      rw [hg]
      by_cases c2 : 0 < x.2
      · have c3 : ¬ x.2 ≤ 0 := by omega
        simp (disch := omega) only [l_X9_answers_22, b_X9_answers_22, b_X9_answers_69, b_X9_answers_94, st, nI_eq, nI_leI, nI_ltI, c1, c2, c3, if_true, if_false, f_X9_goes, f_X9_placeOf, gGoes, pl, g19, g20, yl, cond_true, cond_false, Option.bind_some, ixn, nI_clamp, nI_add, pk_mul, pk_sub, pk_rem, pk_div, up2_s, up2_n, up1_s, up1_n, mdn, nar0, nar1, q0, q1, q2, q3, q4, q5, q6, q7, q8, q10, q15, q20, q25, q40, q50, q80, q100, q200, q256, q8192, q16384, q65536]
      · have c3 : x.2 ≤ 0 := by omega
        simp (disch := omega) only [l_X9_answers_22, b_X9_answers_22, b_X9_answers_69, b_X9_answers_94, st, nI_eq, nI_leI, nI_ltI, c1, c2, c3, if_true, if_false, f_X9_goes, f_X9_placeOf, gGoes, pl, g19, g20, yl, cond_true, cond_false, Option.bind_some, ixn, nI_clamp, nI_add, pk_mul, pk_sub, pk_rem, pk_div, up2_s, up2_n, up1_s, up1_n, mdn, nar0, nar1, q0, q1, q2, q3, q4, q5, q6, q7, q8, q10, q15, q20, q25, q40, q50, q80, q100, q200, q256, q8192, q16384, q65536]
theorem r_answers {w : Nat} {a : AS} {s f h k : Nat} (hs : s < 2) (hf : f ≤ 8191) (hl : tn (a 4 s) ≤ 8190) (e4 : ¬ a 4 s < 0) (e : ansI a s h k) (hk : k ≤ 114000) (ho : ordOk a s) (hw : 8192 < w) : f_X9_answers w a (nI s) (nI f) = some (gAnswers a s f, 0) := by
  have e4' := nIs e4
  by_cases hlt : max f 1 ≤ tn (a 4 s) + 1
  · have hr := r_answersL (w := w) hs hl (tn (a 4 s) + 1 - max f 1) (max f 1) w (a, 0) h k (by omega) (by omega) (by omega) e (by omega) (Nat.zero_le _) rfl ho
    unfold gAnswers
    rw [← hr]
    by_cases c : 1 ≤ f
    · rw [show max f 1 = f by omega]
      simp (disch := omega) only [f_X9_answers, b_X9_answers_20, nI_eq, nI_leI, nI_ltI, c, if_true, yl, cond_true, cond_false, Option.bind_some, ixn, nI_clamp, nI_add, pk_mul, pk_sub, pk_rem, pk_div, up2_s, up2_n, up1_s, up1_n, mdn, nar0, nar1, q0, q1, q2, q3, q4, q5, q6, q7, q8, q10, q15, q20, q25, q40, q50, q80, q100, q200, q256, q8192, q16384, q65536]
      rw [e4']
    · rw [show max f 1 = 1 by omega]
      simp (disch := omega) only [f_X9_answers, b_X9_answers_20, nI_eq, nI_leI, nI_ltI, c, if_false, yl, cond_true, cond_false, Option.bind_some, ixn, nI_clamp, nI_add, pk_mul, pk_sub, pk_rem, pk_div, up2_s, up2_n, up1_s, up1_n, mdn, nar0, nar1, q0, q1, q2, q3, q4, q5, q6, q7, q8, q10, q15, q20, q25, q40, q50, q80, q100, q200, q256, q8192, q16384, q65536]
      rw [e4']
  · have hd : tn (a 4 s) + 1 - max f 1 = 0 := by omega
    unfold gAnswers
    rw [hd]
    have c : 1 ≤ f := by omega
    have c1 : (a 4 s).toNatClampNeg < f := by show tn (a 4 s) < f; omega
    have hl' : (a 4 s).toNatClampNeg ≤ 8190 := hl
    obtain ⟨m, rfl⟩ : ∃ m', w = m' + 1 := ⟨w - 1, by omega⟩
    simp (disch := omega) only [f_X9_answers, b_X9_answers_20, nI_eq, nI_leI, nI_ltI, c, if_true, gAnsL, gAnsE, yl, cond_true, cond_false, Option.bind_some, ixn, nI_clamp, nI_add, pk_mul, pk_sub, pk_rem, pk_div, up2_s, up2_n, up1_s, up1_n, mdn, nar0, nar1, q0, q1, q2, q3, q4, q5, q6, q7, q8, q10, q15, q20, q25, q40, q50, q80, q100, q200, q256, q8192, q16384, q65536]
    rw [← e4']
    simp (disch := omega) only [l_X9_answers_22, b_X9_answers_22, nI_eq, nI_leI, nI_ltI, c1, Nat.le_refl, Nat.lt_irrefl, if_true, if_false, yl, cond_true, cond_false, Option.bind_some, ixn, nI_clamp, nI_add, pk_mul, pk_sub, pk_rem, pk_div, up2_s, up2_n, up1_s, up1_n, mdn, nar0, nar1, q0, q1, q2, q3, q4, q5, q6, q7, q8, q10, q15, q20, q25, q40, q50, q80, q100, q200, q256, q8192, q16384, q65536]
