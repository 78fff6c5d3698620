/-! The reference: what the trader learns, what the house works off. -/
def gKnow1 (a : AS) (o e : Nat) : AS := up2 (up2 (up2 a 42 e (nI 1)) 41 e (a 40 e)) 27 o (a 27 o + a 39 e)
def gKnows (o : Nat) : Nat → Nat → AS → AS
  | 0, _, a => a
  | d + 1, e, a => gKnows o d (e + 1) (gKnow1 a o e)
theorem r_knowsL {w o f t : Nat} (ho : o < 80) (ht : f + t ≤ 100) : ∀ (d e m : Nat) (a : AS), e + d = f + t → d < m → l_X9_knows_3 w m a (nI o) (nI f) (nI t) (nI e) = some (gKnows o d e a, 0) := by
  intro d
  induction d with
  | zero =>
    intro e m a h1 h2
    obtain ⟨m, rfl⟩ : ∃ m', m = m' + 1 := ⟨m - 1, by omega⟩
    have c : f + t ≤ e := by omega
    simp (disch := omega) only [l_X9_knows_3, b_X9_knows_3, nI_eq, nI_leI, nI_ltI, c, if_true, gKnows, yl, cond_true, cond_false, Option.bind_some, ixn, nI_clamp, nI_add, pk_mul, pk_sub, pk_rem, pk_div, up2_s, up2_n, up1_s, up1_n, mdn, nar0, nar1, q0, q1, q2, q3, q4, q5, q6, q7, q8, q10, q15, q20, q25, q40, q50, q80, q100, q200, q256, q8192, q16384, q65536]
  | succ d ih =>
    intro e m a h1 h2
    obtain ⟨m, rfl⟩ : ∃ m', m = m' + 1 := ⟨m - 1, by omega⟩
    have c : ¬ f + t ≤ e := by omega
    show _ = some (gKnows o d (e + 1) (gKnow1 a o e), 0)
    rw [← ih (e + 1) m (gKnow1 a o e) (by omega) (by omega)]
    simp (disch := omega) only [l_X9_knows_3, b_X9_knows_3, nI_eq, nI_leI, nI_ltI, c, if_false, gKnow1, yl, cond_true, cond_false, Option.bind_some, ixn, nI_clamp, nI_add, pk_mul, pk_sub, pk_rem, pk_div, up2_s, up2_n, up1_s, up1_n, mdn, nar0, nar1, q0, q1, q2, q3, q4, q5, q6, q7, q8, q10, q15, q20, q25, q40, q50, q80, q100, q200, q256, q8192, q16384, q65536]
theorem r_knows {w o f t : Nat} {a : AS} (ho : o < 80) (ht : f + t ≤ 100) (hw : 101 < w) : f_X9_knows w a (nI o) (nI f) (nI t) = some (gKnows o t f a, 0) := r_knowsL ho ht t f w a rfl (by omega)
/-- what a report of a sort does in the trader's book -/
def gLrn (a : AS) (σ q o : Nat) : AS :=
  if σ = 0 then up2 a 24 o (nI 1)
  else if σ = 1 then gKnows o (tn (a 17 q)) (tn (a 16 q)) a
  else if σ = 2 then up2 a 28 o (a 28 o + a 16 q)
  else if σ = 3 then up2 (up2 a 25 o (a 16 q)) 26 o (a 17 q)
  else if σ = 5 then (if a 42 (tn (a 16 q)) = nI 0 then a else up2 (up2 (up2 a 43 (tn (a 16 q)) (nI 1)) 27 o (a 27 o - a 39 (tn (a 16 q)))) 28 o (a 28 o + a 39 (tn (a 16 q))))
  else if σ = 6 then (if a 42 (tn (a 16 q)) = nI 0 then a else up2 a 41 (tn (a 16 q)) (a 17 q))
  else a
def gEndReq (a : AS) (σ o : Nat) : AS := up2 a 30 o (a 30 o - (if (σ = 2 ∨ σ = 3 ∨ σ = 4) ∧ ¬ a 30 o ≤ nI 0 then nI 1 else nI 0))
def gLearns (a : AS) (q : Nat) : AS := gEndReq (gLrn a (tn (a 14 q)) q (tn (a 15 q))) (tn (a 14 q)) (tn (a 15 q))
theorem r_endReq {w : Nat} {a : AS} {σ o : Nat} (hσ : σ ≤ 6) (ho : o < 40) : b_X9_learns_219 w a (nI σ) (nI o) = some (gEndReq a σ o, 0) := by
  have key : ∀ s0 : Nat, s0 < 2 → b_X9_learns_239 w a (nI o) (nI s0) = some (up2 a 30 o (a 30 o - (if s0 = 1 ∧ ¬ a 30 o ≤ nI 0 then nI 1 else nI 0)), 0) := fun s0 hs => by
    by_cases c1 : s0 = 0
    · subst c1
      simp (disch := omega) only [b_X9_learns_239, b_X9_learns_266, b_X9_learns_267, yl, cond_true, cond_false, Option.bind_some, ixn, nI_clamp, nI_add, pk_mul, pk_sub, pk_rem, pk_div, up2_s, up2_n, up1_s, up1_n, mdn, nar0, nar1, q0, q1, q2, q3, q4, q5, q6, q7, q8, q10, q15, q20, q25, q40, q50, q80, q100, q200, q256, q8192, q16384, q65536, if_true]
      try rfl
    · have c2 : s0 = 1 := by omega
      subst c2
      have h10 : ¬ nI 1 = nI 0 := by decide
      by_cases c3 : a 30 o ≤ nI 0
      · simp (disch := omega) only [b_X9_learns_239, b_X9_learns_266, b_X9_learns_267, h10, c3, not_true, and_false, if_true, if_false, yl, cond_true, cond_false, Option.bind_some, ixn, nI_clamp, nI_add, pk_mul, pk_sub, pk_rem, pk_div, up2_s, up2_n, up1_s, up1_n, mdn, nar0, nar1, q0, q1, q2, q3, q4, q5, q6, q7, q8, q10, q15, q20, q25, q40, q50, q80, q100, q200, q256, q8192, q16384, q65536]
      · simp (disch := omega) only [b_X9_learns_239, b_X9_learns_266, b_X9_learns_267, h10, c3, not_false_iff, and_true, if_true, if_false, yl, cond_true, cond_false, Option.bind_some, ixn, nI_clamp, nI_add, pk_mul, pk_sub, pk_rem, pk_div, up2_s, up2_n, up1_s, up1_n, mdn, nar0, nar1, q0, q1, q2, q3, q4, q5, q6, q7, q8, q10, q15, q20, q25, q40, q50, q80, q100, q200, q256, q8192, q16384, q65536]
  have k1 := key 1 (by decide)
  have k0 := key 0 (by decide)
  unfold gEndReq
  by_cases c2 : σ = 2
  · subst c2
    simp (disch := omega) only [b_X9_learns_219, b_X9_learns_234, nI_eq, nI_leI, nI_ltI, if_true, yl, cond_true, cond_false, Option.bind_some, ixn, nI_clamp, nI_add, pk_mul, pk_sub, pk_rem, pk_div, up2_s, up2_n, up1_s, up1_n, mdn, nar0, nar1, q0, q1, q2, q3, q4, q5, q6, q7, q8, q10, q15, q20, q25, q40, q50, q80, q100, q200, q256, q8192, q16384, q65536, k1]
    simp only [true_or, true_and]; try rfl
  · by_cases c3 : σ = 3
    · subst c3
      simp (disch := omega) only [b_X9_learns_219, b_X9_learns_234, nI_eq, nI_leI, nI_ltI, c2, if_true, if_false, yl, cond_true, cond_false, Option.bind_some, ixn, nI_clamp, nI_add, pk_mul, pk_sub, pk_rem, pk_div, up2_s, up2_n, up1_s, up1_n, mdn, nar0, nar1, q0, q1, q2, q3, q4, q5, q6, q7, q8, q10, q15, q20, q25, q40, q50, q80, q100, q200, q256, q8192, q16384, q65536, k1]
      simp only [true_or, or_true, true_and]; try rfl
    · by_cases c4 : σ = 4
      · subst c4
        simp (disch := omega) only [b_X9_learns_219, b_X9_learns_234, nI_eq, nI_leI, nI_ltI, c2, c3, if_true, if_false, yl, cond_true, cond_false, Option.bind_some, ixn, nI_clamp, nI_add, pk_mul, pk_sub, pk_rem, pk_div, up2_s, up2_n, up1_s, up1_n, mdn, nar0, nar1, q0, q1, q2, q3, q4, q5, q6, q7, q8, q10, q15, q20, q25, q40, q50, q80, q100, q200, q256, q8192, q16384, q65536, k1]
        simp only [true_or, or_true, true_and]; try rfl
      · simp (disch := omega) only [b_X9_learns_219, b_X9_learns_234, nI_eq, nI_leI, nI_ltI, c2, c3, c4, if_true, if_false, yl, cond_true, cond_false, Option.bind_some, ixn, nI_clamp, nI_add, pk_mul, pk_sub, pk_rem, pk_div, up2_s, up2_n, up1_s, up1_n, mdn, nar0, nar1, q0, q1, q2, q3, q4, q5, q6, q7, q8, q10, q15, q20, q25, q40, q50, q80, q100, q200, q256, q8192, q16384, q65536, k0]
        simp only [c2, c3, c4, or_false, false_and, if_false]
        try rfl
/-- what a report's fields are, for the trader to work it off -/
abbrev repOk (a : AS) (q : Nat) : Prop := q < 16384 ∧ ∃ σ o : Nat, a 14 q = nI σ ∧ σ ≤ 6 ∧ a 15 q = nI o ∧ o < 40 ∧ (σ = 1 → ∃ f t : Nat, a 16 q = nI f ∧ a 17 q = nI t ∧ f + t ≤ 100) ∧ (σ = 5 ∨ σ = 6 → ∃ e : Nat, a 16 q = nI e ∧ e < 100)
theorem r_learns {w : Nat} {a : AS} {q : Nat} (h : repOk a q) (hw : 101 < w) : f_X9_learns w a (nI q) = some (gLearns a q, 0) := by
  obtain ⟨hq, σ, o, e1, hσ, e2, ho, h1, h5⟩ := h
  unfold gLearns
  rw [e1, e2, tnI (show σ < 2 ^ 31 by omega), tnI (show o < 2 ^ 31 by omega)]
  have hr : ∀ b : AS, b_X9_learns_219 w b (nI σ) (nI o) = some (gEndReq b σ o, 0) := fun b => r_endReq hσ ho
  by_cases c0 : σ = 0
  · subst c0
    simp (disch := omega) only [f_X9_learns, e1, e2, if_true, yl, cond_true, cond_false, Option.bind_some, ixn, nI_clamp, nI_add, pk_mul, pk_sub, pk_rem, pk_div, up2_s, up2_n, up1_s, up1_n, mdn, nar0, nar1, q0, q1, q2, q3, q4, q5, q6, q7, q8, q10, q15, q20, q25, q40, q50, q80, q100, q200, q256, q8192, q16384, q65536, hr, gLrn]
    try rfl
  · by_cases c1 : σ = 1
    · subst c1
      obtain ⟨f, t, g1, g2, g3⟩ := h1 rfl
      have hk := r_knows (w := w) (o := o) (a := a) (show o < 80 by omega) g3 hw
      simp (disch := omega) only [f_X9_learns, e1, e2, nI_eq, nI_leI, nI_ltI, c0, if_true, if_false, g1, g2, hk, yl, cond_true, cond_false, Option.bind_some, ixn, nI_clamp, nI_add, pk_mul, pk_sub, pk_rem, pk_div, up2_s, up2_n, up1_s, up1_n, mdn, nar0, nar1, q0, q1, q2, q3, q4, q5, q6, q7, q8, q10, q15, q20, q25, q40, q50, q80, q100, q200, q256, q8192, q16384, q65536, hr, gLrn]
      try rfl
    · by_cases c2 : σ = 2
      · subst c2
        simp (disch := omega) only [f_X9_learns, e1, e2, nI_eq, nI_leI, nI_ltI, c0, c1, if_true, if_false, yl, cond_true, cond_false, Option.bind_some, ixn, nI_clamp, nI_add, pk_mul, pk_sub, pk_rem, pk_div, up2_s, up2_n, up1_s, up1_n, mdn, nar0, nar1, q0, q1, q2, q3, q4, q5, q6, q7, q8, q10, q15, q20, q25, q40, q50, q80, q100, q200, q256, q8192, q16384, q65536, hr, gLrn]
        try rfl
      · by_cases c3 : σ = 3
        · subst c3
          simp (disch := omega) only [f_X9_learns, e1, e2, nI_eq, nI_leI, nI_ltI, c0, c1, c2, if_true, if_false, yl, cond_true, cond_false, Option.bind_some, ixn, nI_clamp, nI_add, pk_mul, pk_sub, pk_rem, pk_div, up2_s, up2_n, up1_s, up1_n, mdn, nar0, nar1, q0, q1, q2, q3, q4, q5, q6, q7, q8, q10, q15, q20, q25, q40, q50, q80, q100, q200, q256, q8192, q16384, q65536, hr, gLrn]
          try rfl
        · by_cases c5 : σ = 5
          · subst c5
            obtain ⟨e, g1, g2⟩ := h5 (Or.inl rfl)
            have n56 : ¬ 5 = 6 := by decide
            by_cases c : a 42 e = nI 0
            · simp (disch := omega) only [f_X9_learns, b_X9_learns_182, e1, e2, nI_eq, nI_leI, nI_ltI, c0, c1, c2, c3, n56, c, g1, if_true, if_false, yl, cond_true, cond_false, Option.bind_some, ixn, nI_clamp, nI_add, pk_mul, pk_sub, pk_rem, pk_div, up2_s, up2_n, up1_s, up1_n, mdn, nar0, nar1, q0, q1, q2, q3, q4, q5, q6, q7, q8, q10, q15, q20, q25, q40, q50, q80, q100, q200, q256, q8192, q16384, q65536, hr, gLrn]
              try rfl
            · simp (disch := omega) only [f_X9_learns, b_X9_learns_182, e1, e2, nI_eq, nI_leI, nI_ltI, c0, c1, c2, c3, c, g1, if_true, if_false, yl, cond_true, cond_false, Option.bind_some, ixn, nI_clamp, nI_add, pk_mul, pk_sub, pk_rem, pk_div, up2_s, up2_n, up1_s, up1_n, mdn, nar0, nar1, q0, q1, q2, q3, q4, q5, q6, q7, q8, q10, q15, q20, q25, q40, q50, q80, q100, q200, q256, q8192, q16384, q65536, hr, gLrn]
              try rfl
          · by_cases c6 : σ = 6
            · subst c6
              obtain ⟨e, g1, g2⟩ := h5 (Or.inr rfl)
              by_cases c : a 42 e = nI 0
              · simp (disch := omega) only [f_X9_learns, b_X9_learns_182, e1, e2, nI_eq, nI_leI, nI_ltI, c0, c1, c2, c3, c5, c, g1, if_true, if_false, yl, cond_true, cond_false, Option.bind_some, ixn, nI_clamp, nI_add, pk_mul, pk_sub, pk_rem, pk_div, up2_s, up2_n, up1_s, up1_n, mdn, nar0, nar1, q0, q1, q2, q3, q4, q5, q6, q7, q8, q10, q15, q20, q25, q40, q50, q80, q100, q200, q256, q8192, q16384, q65536, hr, gLrn]
                try rfl
              · simp (disch := omega) only [f_X9_learns, b_X9_learns_182, e1, e2, nI_eq, nI_leI, nI_ltI, c0, c1, c2, c3, c5, c, g1, if_true, if_false, yl, cond_true, cond_false, Option.bind_some, ixn, nI_clamp, nI_add, pk_mul, pk_sub, pk_rem, pk_div, up2_s, up2_n, up1_s, up1_n, mdn, nar0, nar1, q0, q1, q2, q3, q4, q5, q6, q7, q8, q10, q15, q20, q25, q40, q50, q80, q100, q200, q256, q8192, q16384, q65536, hr, gLrn]
                try rfl
            · simp (disch := omega) only [f_X9_learns, b_X9_learns_182, e1, e2, nI_eq, nI_leI, nI_ltI, c0, c1, c2, c3, c5, c6, if_true, if_false, yl, cond_true, cond_false, Option.bind_some, ixn, nI_clamp, nI_add, pk_mul, pk_sub, pk_rem, pk_div, up2_s, up2_n, up1_s, up1_n, mdn, nar0, nar1, q0, q1, q2, q3, q4, q5, q6, q7, q8, q10, q15, q20, q25, q40, q50, q80, q100, q200, q256, q8192, q16384, q65536, hr, gLrn]
              try rfl
def gBehind (a : AS) (o : Nat) : AS := up2 (up2 a 31 o (a 0 32)) 0 32 (a 0 32 + 1)
theorem r_behind {w : Nat} {a : AS} {o : Nat} (ho : o < 40) : f_X9_comesBehind w a (nI o) = some (gBehind a o, 0) := by
  simp (disch := omega) only [f_X9_comesBehind, gBehind, yl, cond_true, cond_false, Option.bind_some, ixn, nI_clamp, nI_add, pk_mul, pk_sub, pk_rem, pk_div, up2_s, up2_n, up1_s, up1_n, mdn, nar0, nar1, q0, q1, q2, q3, q4, q5, q6, q7, q8, q10, q15, q20, q25, q40, q50, q80, q100, q200, q256, q8192, q16384, q65536]
/-- the house works a request off -/
def gWork (a : AS) (q : Nat) : AS :=
  if a 11 q = nI 5 then (if a 24 (40 + tn (a 14 q)) = nI 0 then gRoutes (gRep (gBehind (up2 (up2 (up2 a 24 (40 + tn (a 14 q)) (nI 1)) 25 (40 + tn (a 14 q)) (a 16 q)) 26 (40 + tn (a 14 q)) (a 17 q)) (tn (a 14 q))) (nI 0) (tn (a 14 q)) (nI 0) (nI 0)) (tn (a 14 q)) else a)
  else if a 24 (40 + tn (a 14 q)) = nI 0 ∨ lft a (40 + tn (a 14 q)) = nI 0 ∨ (a 11 q = nI 7 ∧ ¬ a 27 (40 + tn (a 14 q)) + a 28 (40 + tn (a 14 q)) < a 16 q) then gRep a (nI 4) (tn (a 14 q)) (nI 0) (nI 0)
  else if a 11 q = nI 6 then gRep (up2 a 28 (40 + tn (a 14 q)) (a 28 (40 + tn (a 14 q)) + lft a (40 + tn (a 14 q)))) (nI 2) (tn (a 14 q)) (lft a (40 + tn (a 14 q))) (nI 0)
  else gRoutes (gRep (gBehind (up2 (up2 a 25 (40 + tn (a 14 q)) (a 15 q)) 26 (40 + tn (a 14 q)) (a 16 q)) (tn (a 14 q))) (nI 3) (tn (a 14 q)) (a 15 q) (a 16 q)) (tn (a 14 q))
theorem gKeep_k (a : AS) (s : Nat) (kd o1 o2 o3 o4 : Int32) (k i : Nat) (h : k ≠ 4) (h1 : k < 11 ∨ 17 < k) : gKeep a s kd o1 o2 o3 o4 k i = a k i := by
  simp (disch := omega) only [gKeep, up2_n]
theorem gSends_k (a : AS) (s : Nat) (kd o1 o2 o3 o4 : Int32) (k i : Nat) (h : k ≠ 4) (h1 : k < 11 ∨ 17 < k) (h2 : k ≠ 21) (h3 : k ≠ 20) (h4 : k ≠ 9) : gSends a s kd o1 o2 o3 o4 k i = a k i := by
  unfold gSends
  split
  · exact gKeep_k _ _ _ _ _ _ _ _ _ h h1
  · rw [gGoes_k _ _ _ _ _ _ h2 h3 h4, gKeep_k _ _ _ _ _ _ _ _ _ h h1]
theorem gSends_4 (a : AS) (s n : Nat) (kd o1 o2 o3 o4 : Int32) (h : a 4 s = nI n) (hn : n < 2 ^ 31) : gSends a s kd o1 o2 o3 o4 4 s = nI (n + 1) := by
  have h1 : gKeep a s kd o1 o2 o3 o4 4 s = nI (n + 1) := by
    simp (disch := omega) only [gKeep, h, yl, cond_true, cond_false, Option.bind_some, ixn, nI_clamp, nI_add, pk_mul, pk_sub, pk_rem, pk_div, up2_s, up2_n, up1_s, up1_n, mdn, nar0, nar1, q0, q1, q2, q3, q4, q5, q6, q7, q8, q10, q15, q20, q25, q40, q50, q80, q100, q200, q256, q8192, q16384, q65536]
  unfold gSends
  split
  · exact h1
  · rw [gGoes_k _ _ _ _ _ _ (by decide) (by decide) (by decide)]; exact h1
theorem gSends_rgo {a : AS} {s n k : Nat} {kd o1 o2 o3 o4 : Int32} (e : rgo a s n k) (hn : n < 2 ^ 31) (hk : k < 2 ^ 31) : ∃ k', rgo (gSends a s kd o1 o2 o3 o4) s (n + 1) k' ∧ k ≤ k' ∧ k' ≤ k + 1 := by
  obtain ⟨e4, ⟨h, e19, h2⟩, e20⟩ := e
  have g4 := gSends_4 a s n kd o1 o2 o3 o4 e4 hn
  have g19 : gSends a s kd o1 o2 o3 o4 19 (1 - s) = nI h := (gSends_k _ _ _ _ _ _ _ _ _ (by decide) (by decide) (by decide) (by decide) (by decide)).trans e19
  unfold gSends at g4 g19 ⊢
  by_cases c : a 0 2 = 0
  · rw [if_pos c] at g4 g19 ⊢
    exact ⟨k, ⟨g4, ⟨h, g19, h2⟩, (gKeep_k _ _ _ _ _ _ _ _ _ (by decide) (by decide)).trans e20⟩, by omega, by omega⟩
  · rw [if_neg c] at g4 g19 ⊢
    exact ⟨k + 1, ⟨g4, ⟨h, g19, h2⟩, gGoes_20 _ _ _ _ _ ((gKeep_k _ _ _ _ _ _ _ _ _ (by decide) (by decide)).trans e20) hk⟩, by omega, by omega⟩
theorem rgo_of {a b : AS} {s n k : Nat} (e : rgo a s n k) (h4 : b 4 s = a 4 s) (h19 : b 19 (1 - s) = a 19 (1 - s)) (h20 : b 20 (1 - s) = a 20 (1 - s)) : rgo b s n k := by
  obtain ⟨e4, ⟨h, e19, h2⟩, e20⟩ := e
  exact ⟨h4.trans e4, ⟨h, h19.trans e19, h2⟩, h20.trans e20⟩
theorem r_work {w : Nat} {a : AS} {q o d n k e : Nat} (hq : q < 16384) (e14 : a 14 q = nI o) (ho : o < 40) (hd : d < 2) (h23 : a 23 o = nI d) (h35 : a 0 35 = nI e) (he : e ≤ 100) (h : rgo a 1 n k) (hn : n + 2 ≤ 8191) (hk : k ≤ 131070) (hw : 200 < w) (hkd : a 11 q = nI 5 ∨ a 11 q = nI 6 ∨ a 11 q = nI 7) : f_X9_worksOff w a (nI q) = some (gWork a q, 0) := by
  have n65 : ¬ nI 6 = nI 5 := by decide
  have n75 : ¬ nI 7 = nI 5 := by decide
  have n67 : ¬ nI 6 = nI 7 := by decide
  have n76 : ¬ nI 7 = nI 6 := by decide
  have hrep : ∀ (b : AS) (sort x y : Int32), b 4 1 = a 4 1 → b 19 0 = a 19 0 → b 20 0 = a 20 0 → f_X9_reports w b sort (nI o) x y = some (gRep b sort o x y, 0) := fun b sort x y g1 g2 g3 => r_rep (rgo_of h g1 g2 g3) (by omega) (by omega)
  have hrt : ∀ (b : AS) (sort x y : Int32), b 4 1 = a 4 1 → b 19 0 = a 19 0 → b 20 0 = a 20 0 → b 23 o = a 23 o → b 0 35 = a 0 35 → f_X9_routes w (gRep b sort o x y) (nI o) = some (gRoutes (gRep b sort o x y) o, 0) := fun b sort x y g1 g2 g3 g4 g5 => by
    obtain ⟨k', hk', hk1, hk2⟩ := gSends_rgo (kd := nI 8) (o1 := sort) (o2 := nI o) (o3 := x) (o4 := y) (rgo_of h g1 g2 g3) (by omega) (by omega)
    refine r_routes ho hd ?_ ?_ he hk' (by omega) (by omega) hw
    · exact (gSends_k _ _ _ _ _ _ _ _ _ (by decide) (by decide) (by decide) (by decide) (by decide)).trans (g4.trans h23)
    · exact (gSends_k _ _ _ _ _ _ _ _ _ (by decide) (by decide) (by decide) (by decide) (by decide)).trans (g5.trans h35)
  have et : tn (a 14 q) = o := by rw [e14, tnI (by omega)]
  unfold gWork
  rw [et]
  rcases hkd with hkd | hkd | hkd
  · rw [if_pos hkd]
    by_cases c1 : a 24 (40 + o) = nI 0
    · rw [if_pos c1]
      simp (disch := omega) only [f_X9_worksOff, e14, hkd, c1, if_true, r_behind, yl, cond_true, cond_false, Option.bind_some, ixn, nI_clamp, nI_add, pk_mul, pk_sub, pk_rem, pk_div, up2_s, up2_n, up1_s, up1_n, mdn, nar0, nar1, q0, q1, q2, q3, q4, q5, q6, q7, q8, q10, q15, q20, q25, q40, q50, q80, q100, q200, q256, q8192, q16384, q65536]
      rw [hrep, Option.bind_some, hrt]
      · rfl
      all_goals simp (disch := omega) only [gBehind, up2_n]
    · rw [if_neg c1]
      simp (disch := omega) only [f_X9_worksOff, e14, hkd, c1, if_true, if_false, yl, cond_true, cond_false, Option.bind_some, ixn, nI_clamp, nI_add, pk_mul, pk_sub, pk_rem, pk_div, up2_s, up2_n, up1_s, up1_n, mdn, nar0, nar1, q0, q1, q2, q3, q4, q5, q6, q7, q8, q10, q15, q20, q25, q40, q50, q80, q100, q200, q256, q8192, q16384, q65536]
  · rw [hkd, if_neg n65]
    by_cases c1 : a 24 (40 + o) = nI 0
    · rw [if_pos (Or.inl c1)]
      simp (disch := omega) only [f_X9_worksOff, b_X9_worksOff_133, e14, hkd, n65, c1, if_true, if_false, yl, cond_true, cond_false, Option.bind_some, ixn, nI_clamp, nI_add, pk_mul, pk_sub, pk_rem, pk_div, up2_s, up2_n, up1_s, up1_n, mdn, nar0, nar1, q0, q1, q2, q3, q4, q5, q6, q7, q8, q10, q15, q20, q25, q40, q50, q80, q100, q200, q256, q8192, q16384, q65536]
      rw [hrep _ _ _ _ rfl rfl rfl]; try rfl
    · by_cases c2 : lft a (40 + o) = nI 0
      · rw [if_pos (Or.inr (Or.inl c2))]
        simp (disch := omega) only [f_X9_worksOff, b_X9_worksOff_133, e14, hkd, n65, c1, r_left, c2, if_true, if_false, yl, cond_true, cond_false, Option.bind_some, ixn, nI_clamp, nI_add, pk_mul, pk_sub, pk_rem, pk_div, up2_s, up2_n, up1_s, up1_n, mdn, nar0, nar1, q0, q1, q2, q3, q4, q5, q6, q7, q8, q10, q15, q20, q25, q40, q50, q80, q100, q200, q256, q8192, q16384, q65536]
        rw [hrep _ _ _ _ rfl rfl rfl]; try rfl
      · rw [if_neg (fun hh => hh.elim c1 (fun hh => hh.elim c2 (fun hh => n67 hh.1))), if_pos rfl]
        simp (disch := omega) only [f_X9_worksOff, b_X9_worksOff_144, e14, hkd, n65, n67, c1, r_left, c2, if_true, if_false, yl, cond_true, cond_false, Option.bind_some, ixn, nI_clamp, nI_add, pk_mul, pk_sub, pk_rem, pk_div, up2_s, up2_n, up1_s, up1_n, mdn, nar0, nar1, q0, q1, q2, q3, q4, q5, q6, q7, q8, q10, q15, q20, q25, q40, q50, q80, q100, q200, q256, q8192, q16384, q65536]
        rw [hrep]
        · rfl
        all_goals simp (disch := omega) only [up2_n]
  · rw [hkd, if_neg n75]
    by_cases c1 : a 24 (40 + o) = nI 0
    · rw [if_pos (Or.inl c1)]
      simp (disch := omega) only [f_X9_worksOff, b_X9_worksOff_133, e14, hkd, n75, c1, if_true, if_false, yl, cond_true, cond_false, Option.bind_some, ixn, nI_clamp, nI_add, pk_mul, pk_sub, pk_rem, pk_div, up2_s, up2_n, up1_s, up1_n, mdn, nar0, nar1, q0, q1, q2, q3, q4, q5, q6, q7, q8, q10, q15, q20, q25, q40, q50, q80, q100, q200, q256, q8192, q16384, q65536]
      rw [hrep _ _ _ _ rfl rfl rfl]; try rfl
    · by_cases c2 : lft a (40 + o) = nI 0
      · rw [if_pos (Or.inr (Or.inl c2))]
        simp (disch := omega) only [f_X9_worksOff, b_X9_worksOff_133, e14, hkd, n75, c1, r_left, c2, if_true, if_false, yl, cond_true, cond_false, Option.bind_some, ixn, nI_clamp, nI_add, pk_mul, pk_sub, pk_rem, pk_div, up2_s, up2_n, up1_s, up1_n, mdn, nar0, nar1, q0, q1, q2, q3, q4, q5, q6, q7, q8, q10, q15, q20, q25, q40, q50, q80, q100, q200, q256, q8192, q16384, q65536]
        rw [hrep _ _ _ _ rfl rfl rfl]; try rfl
      · by_cases c3 : a 27 (40 + o) + a 28 (40 + o) < a 16 q
        · rw [if_neg (fun hh => hh.elim c1 (fun hh => hh.elim c2 (fun hh => hh.2 c3))), if_neg n76]
          simp (disch := omega) only [f_X9_worksOff, b_X9_worksOff_144, e14, hkd, n75, n76, c1, r_left, c2, c3, r_behind, if_true, if_false, yl, cond_true, cond_false, Option.bind_some, ixn, nI_clamp, nI_add, pk_mul, pk_sub, pk_rem, pk_div, up2_s, up2_n, up1_s, up1_n, mdn, nar0, nar1, q0, q1, q2, q3, q4, q5, q6, q7, q8, q10, q15, q20, q25, q40, q50, q80, q100, q200, q256, q8192, q16384, q65536]
          rw [show gBehind (up2 (up2 a 25 (40 + o) (a 15 q)) 26 (40 + o) (a 16 q)) o 15 q = a 15 q by simp (disch := omega) only [gBehind, up2_n], show gBehind (up2 (up2 a 25 (40 + o) (a 15 q)) 26 (40 + o) (a 16 q)) o 16 q = a 16 q by simp (disch := omega) only [gBehind, up2_n]]
          rw [hrep, Option.bind_some, hrt]
          · rfl
          all_goals simp (disch := omega) only [gBehind, up2_n]
        · rw [if_pos (Or.inr (Or.inr ⟨rfl, c3⟩))]
          simp (disch := omega) only [f_X9_worksOff, b_X9_worksOff_133, e14, hkd, n75, c1, r_left, c2, c3, if_true, if_false, yl, cond_true, cond_false, Option.bind_some, ixn, nI_clamp, nI_add, pk_mul, pk_sub, pk_rem, pk_div, up2_s, up2_n, up1_s, up1_n, mdn, nar0, nar1, q0, q1, q2, q3, q4, q5, q6, q7, q8, q10, q15, q20, q25, q40, q50, q80, q100, q200, q256, q8192, q16384, q65536]
          rw [hrep _ _ _ _ rfl rfl rfl]; try rfl
