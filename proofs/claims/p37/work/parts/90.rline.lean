/-! The reference: come, garble, pass, connect, cut. -/
/-- a message comes: what is done ahead of its number; then by its number -/
def gCmA (a : AS) (s n f : Nat) : AS := if f = 0 ∧ a 11 (8192 * (1 - s) + n) = nI 0 then up2 (up2 a 10 s (a 0 1)) 3 s (nI 1) else up2 a 10 s (a 0 1)
def gCmB (a : AS) (s n f : Nat) : AS := if f = 0 ∧ a 11 (8192 * (1 - s) + n) = nI 3 then gAnswers (gCmA a s n f) s (tn (a 14 (8192 * (1 - s) + n))) else gCmA a s n f
def gCmC (a : AS) (s n f : Nat) : AS := if tn (a 5 s) < n then gAsk (gHold a s n f) s else if n = tn (a 5 s) then gHeld (gTakes a s n f) s else a
def gComes (a : AS) (s n f : Nat) : AS := gCmC (gCmB a s n f) s n f
theorem gCmA_k (a : AS) (s n f k i : Nat) (h : k ≠ 10) (h1 : k ≠ 3) : gCmA a s n f k i = a k i := by
  unfold gCmA
  split <;> simp (disch := omega) only [up2_n]
/-- what coming wants of a state, ahead of the number -/
def cmOk (a : AS) (s n f : Nat) : Prop := n ≤ 8190 ∧ f ≤ 8191 ∧ (f = 0 → a 11 (8192 * (1 - s) + n) = nI 3 → ∃ g h k : Nat, a 14 (8192 * (1 - s) + n) = nI g ∧ g ≤ 8191 ∧ tn (a 4 s) ≤ 8190 ∧ ¬ a 4 s < 0 ∧ ansI a s h k ∧ k ≤ 114000 ∧ ordOk a s)
/-- what its number wants -/
def cnOk (a : AS) (s n f : Nat) : Prop := ∃ E ns k : Nat, a 5 s = nI E ∧ E ≤ 8191 ∧ rgo a s ns k ∧ ns + 2 ≤ 8191 ∧ k ≤ 131070 ∧ (n = E → tkOk a s n f ∧ ∃ E' : Nat, gTakes a s n f 5 s = nI E' ∧ E' ≤ 8191)
theorem r_comes {w : Nat} {a : AS} {s n f : Nat} (hs : s < 2) (hw : 8192 < w) (h : cmOk a s n f) (h2 : cnOk (gCmB a s n f) s n f) (P : AS → Prop) (hP : ∀ a, P a → hdOk a s) (hN : ∀ a, P a → ¬ a 18 (8192 * s + tn (a 5 s)) ≤ nI 0 → P (gHd1 a s)) (hp : n = tn (gCmB a s n f 5 s) → P (gThrow (gTakes (gCmB a s n f) s n f) s)) : f_X9_comes w a (nI s) (nI n) (nI f) = some (gComes a s n f, 0) := by
  obtain ⟨hn, hf, h3⟩ := h
  obtain ⟨E, ns, k, e5, hE, hr, hns, hk, htk⟩ := h2
  have k69 : b_X9_comes_69 w (gCmB a s n f) (nI s) (nI n) (nI f) = some (gComes a s n f, nI 0) := by
    unfold gComes
    generalize gCmB a s n f = b at *
    unfold gCmC
    rw [e5, tnI (by omega)]
    rw [e5, tnI (by omega)] at hp
    by_cases c : E < n
    · have c' : ¬ n ≤ E := by omega
      have hh := r_hold (w := w) (n := n) (f := f) hs hn hf hr (by omega) hk
      rw [if_pos c]
      simp (disch := omega) only [b_X9_comes_69, e5, nI_eq, nI_leI, nI_ltI, c', if_false, yl, cond_true, cond_false, Option.bind_some, ixn, nI_clamp, nI_add, pk_mul, pk_sub, pk_rem, pk_div, up2_s, up2_n, up1_s, up1_n, mdn, nar0, nar1, q0, q1, q2, q3, q4, q5, q6, q7, q8, q10, q15, q20, q25, q40, q50, q80, q100, q200, q256, q8192, q16384, q65536, hh]
    · have c' : n ≤ E := by omega
      rw [if_neg c]
      by_cases c1 : n = E
      · obtain ⟨t1, E', t2, t3⟩ := htk c1
        rw [if_pos c1]
        have g1 := r_takes (w := w) hs t1 (by omega)
        have g2 := r_held hs hw P hP hN t2 t3 (hp c1)
        simp (disch := omega) only [b_X9_comes_69, e5, nI_eq, nI_leI, nI_ltI, c', c1, if_true, yl, cond_true, cond_false, Option.bind_some, ixn, nI_clamp, nI_add, pk_mul, pk_sub, pk_rem, pk_div, up2_s, up2_n, up1_s, up1_n, mdn, nar0, nar1, q0, q1, q2, q3, q4, q5, q6, q7, q8, q10, q15, q20, q25, q40, q50, q80, q100, q200, q256, q8192, q16384, q65536]
        rw [c1] at g1 g2
        simp only [g1, g2, Option.bind_some, Nat.le_refl, if_true]
        try rfl
      · rw [if_neg c1]
        simp (disch := omega) only [b_X9_comes_69, e5, nI_eq, nI_leI, nI_ltI, c', c1, if_true, if_false, yl, cond_true, cond_false, Option.bind_some, ixn, nI_clamp, nI_add, pk_mul, pk_sub, pk_rem, pk_div, up2_s, up2_n, up1_s, up1_n, mdn, nar0, nar1, q0, q1, q2, q3, q4, q5, q6, q7, q8, q10, q15, q20, q25, q40, q50, q80, q100, q200, q256, q8192, q16384, q65536]
  have k42 : b_X9_comes_42 w (gCmA a s n f) (nI s) (nI n) (nI f) (nI (8192 * (1 - s) + n)) = some (gComes a s n f, nI 0) := by
    have g11 : gCmA a s n f 11 (8192 * (1 - s) + n) = a 11 (8192 * (1 - s) + n) := gCmA_k _ _ _ _ _ _ (by decide) (by decide)
    by_cases c : f = 0
    · by_cases c1 : a 11 (8192 * (1 - s) + n) = nI 3
      · obtain ⟨g, h, k', z1, z2, z3, z4, z5, z6, z7⟩ := h3 c c1
        have g14 : gCmA a s n f 14 (8192 * (1 - s) + n) = nI g := (gCmA_k _ _ _ _ _ _ (by decide) (by decide)).trans z1
        have hb : gCmB a s n f = gAnswers (gCmA a s n f) s g := by unfold gCmB; rw [if_pos ⟨c, c1⟩, z1, tnI (by omega)]
        have ha := r_answers (w := w) (a := gCmA a s n f) (f := g) (h := h) (k := k') hs z2 (by rw [gCmA_k _ _ _ _ _ _ (by decide) (by decide)]; exact z3) (by rw [gCmA_k _ _ _ _ _ _ (by decide) (by decide)]; exact z4) ⟨(gCmA_k _ _ _ _ _ _ (by decide) (by decide)).trans z5.1, z5.2.1, (gCmA_k _ _ _ _ _ _ (by decide) (by decide)).trans z5.2.2⟩ z6 (fun j q1 q2 q3 => by
          rw [gCmA_k _ _ _ _ _ _ (by decide) (by decide)] at q2 q3
          rw [gCmA_k _ _ _ _ _ _ (by decide) (by decide)]
          exact z7 j q1 q2 q3) hw
        rw [hb] at k69
        subst c
        simp (disch := omega) only [b_X9_comes_42, g11, c1, g14, if_true, yl, cond_true, cond_false, Option.bind_some, ixn, nI_clamp, nI_add, pk_mul, pk_sub, pk_rem, pk_div, up2_s, up2_n, up1_s, up1_n, mdn, nar0, nar1, q0, q1, q2, q3, q4, q5, q6, q7, q8, q10, q15, q20, q25, q40, q50, q80, q100, q200, q256, q8192, q16384, q65536, ha, k69]
      · have hb : gCmB a s n f = gCmA a s n f := by unfold gCmB; rw [if_neg (fun hh => c1 hh.2)]
        rw [hb] at k69
        subst c
        simp (disch := omega) only [b_X9_comes_42, g11, c1, if_true, if_false, yl, cond_true, cond_false, Option.bind_some, ixn, nI_clamp, nI_add, pk_mul, pk_sub, pk_rem, pk_div, up2_s, up2_n, up1_s, up1_n, mdn, nar0, nar1, q0, q1, q2, q3, q4, q5, q6, q7, q8, q10, q15, q20, q25, q40, q50, q80, q100, q200, q256, q8192, q16384, q65536, k69]
    · have hb : gCmB a s n f = gCmA a s n f := by unfold gCmB; rw [if_neg (fun hh => c hh.1)]
      rw [hb] at k69
      simp (disch := omega) only [b_X9_comes_42, nI_eq, nI_leI, nI_ltI, c, if_false, yl, cond_true, cond_false, Option.bind_some, ixn, nI_clamp, nI_add, pk_mul, pk_sub, pk_rem, pk_div, up2_s, up2_n, up1_s, up1_n, mdn, nar0, nar1, q0, q1, q2, q3, q4, q5, q6, q7, q8, q10, q15, q20, q25, q40, q50, q80, q100, q200, q256, q8192, q16384, q65536, k69]
  by_cases c : f = 0
  · by_cases c1 : a 11 (8192 * (1 - s) + n) = nI 0
    · have ha : gCmA a s n f = up2 (up2 a 10 s (a 0 1)) 3 s (nI 1) := if_pos ⟨c, c1⟩
      rw [ha] at k42
      subst c
      simp (disch := omega) only [f_X9_comes, c1, if_true, yl, cond_true, cond_false, Option.bind_some, ixn, nI_clamp, nI_add, pk_mul, pk_sub, pk_rem, pk_div, up2_s, up2_n, up1_s, up1_n, mdn, nar0, nar1, q0, q1, q2, q3, q4, q5, q6, q7, q8, q10, q15, q20, q25, q40, q50, q80, q100, q200, q256, q8192, q16384, q65536, k42]
    · have ha : gCmA a s n f = up2 a 10 s (a 0 1) := if_neg (fun hh => c1 hh.2)
      rw [ha] at k42
      subst c
      simp (disch := omega) only [f_X9_comes, c1, if_true, if_false, yl, cond_true, cond_false, Option.bind_some, ixn, nI_clamp, nI_add, pk_mul, pk_sub, pk_rem, pk_div, up2_s, up2_n, up1_s, up1_n, mdn, nar0, nar1, q0, q1, q2, q3, q4, q5, q6, q7, q8, q10, q15, q20, q25, q40, q50, q80, q100, q200, q256, q8192, q16384, q65536, k42]
  · have ha : gCmA a s n f = up2 a 10 s (a 0 1) := if_neg (fun hh => c hh.1)
    rw [ha] at k42
    simp (disch := omega) only [f_X9_comes, nI_eq, nI_leI, nI_ltI, c, if_false, yl, cond_true, cond_false, Option.bind_some, ixn, nI_clamp, nI_add, pk_mul, pk_sub, pk_rem, pk_div, up2_s, up2_n, up1_s, up1_n, mdn, nar0, nar1, q0, q1, q2, q3, q4, q5, q6, q7, q8, q10, q15, q20, q25, q40, q50, q80, q100, q200, q256, q8192, q16384, q65536, k42]
/-- the next message on the way to a side: its entry, taken off -/
def wyE (a : AS) (s : Nat) : Nat := tn (a 21 (pl a s 0))
def gPop (a : AS) (s : Nat) : AS := up2 (up2 a 19 s (nI ((tn (a 19 s) + 1) % 65536))) 20 s (nI (tn (a 20 s) - 1))
/-- whether it is not lost -/
def isIn (a : AS) (s : Nat) : Prop := wyE a s % 2 = 0 ∧ (¬ a 3 s = nI 0 ∨ (wyE a s / 2 % 8192 = 0 ∧ a 11 (8192 * (1 - s) + wyE a s / 2 / 8192) = nI 0))
noncomputable def gCome1 (a : AS) (s : Nat) : AS := @ite _ (isIn a s) (Classical.propDecidable _) (gComes (gPop a s) s (wyE a s / 2 / 8192) (wyE a s / 2 % 8192)) (gPop a s)
noncomputable def gComeL (s : Nat) : Nat → AS → AS
  | 0, a => a
  | d + 1, a => gComeL s d (gCome1 a s)
/-- what a turn wants -/
def wyOk (a : AS) (s : Nat) : Prop := ∃ h k t : Nat, a 19 s = nI h ∧ h < 65536 ∧ a 20 s = nI k ∧ 1 ≤ k ∧ k ≤ 131070 ∧ a 21 (pl a s 0) = nI t ∧ t / 2 / 8192 ≤ 8190
theorem r_comeL {w s c0 : Nat} (hs : s < 2) (hc0 : c0 ≤ 100) (hw : 8192 < w) (P : AS → Prop) (hP : ∀ a, P a → wyOk a s) (hN : ∀ a, P a → isIn a s → f_X9_comes w (gPop a s) (nI s) (nI (wyE a s / 2 / 8192)) (nI (wyE a s / 2 % 8192)) = some (gComes (gPop a s) s (wyE a s / 2 / 8192) (wyE a s / 2 % 8192), 0)) : ∀ (d j m : Nat) (a : AS), j + d = c0 → d < m → (∀ i, i < d → P (gComeL s i a)) → l_X9_come_63 w m a (nI s) (nI c0) (nI j) = some (gComeL s d a, nI c0) := by
  intro d
  induction d with
  | zero =>
    intro j m a h1 h2 h3
    obtain ⟨m, rfl⟩ : ∃ m', m = m' + 1 := ⟨m - 1, by omega⟩
    have c : c0 ≤ j := by omega
    simp (disch := omega) only [l_X9_come_63, b_X9_come_63, nI_eq, nI_leI, nI_ltI, c, if_true, gComeL, yl, cond_true, cond_false, Option.bind_some, ixn, nI_clamp, nI_add, pk_mul, pk_sub, pk_rem, pk_div, up2_s, up2_n, up1_s, up1_n, mdn, nar0, nar1, q0, q1, q2, q3, q4, q5, q6, q7, q8, q10, q15, q20, q25, q40, q50, q80, q100, q200, q256, q8192, q16384, q65536]
  | succ d ih =>
    intro j m a h1 h2 h3
    obtain ⟨m, rfl⟩ : ∃ m', m = m' + 1 := ⟨m - 1, by omega⟩
    have c : ¬ c0 ≤ j := by omega
    have hp := h3 0 (by omega)
    have hp : P a := hp
    obtain ⟨h, k, t, e19, hh, e20, hk1, hk2, e21, ht⟩ := hP a hp
    have hin := hN a hp
    have hih := ih (j + 1) m (gCome1 a s) (by omega) (by omega) (fun i hi => h3 (i + 1) (by omega))
    show _ = some (gComeL s d (gCome1 a s), nI c0)
    rw [← hih]
    have ht31 : t < 2 ^ 31 := by omega
    have eE : wyE a s = t := by unfold wyE; rw [e21, tnI ht31]
    have hpl : pl a s 0 < 131072 := by unfold pl; omega
    have epl : f_X9_placeOf w a (nI s) (nI 0) = some (nI (pl a s 0)) := r_placeOf hs e19 hh (by omega)
    have ePop : gPop a s = up2 (up2 a 19 s (nI ((h + 1) % 65536))) 20 s (nI (k - 1)) := by unfold gPop; rw [e19, e20, tnI (by omega), tnI (by omega)]
    have p3 : gPop a s 3 s = a 3 s := by rw [ePop]; simp (disch := omega) only [up2_n]
    rw [eE] at hin
    generalize hq : 8192 * (1 - s) + t / 2 / 8192 = q at *
    have hq2 : q < 16384 := by omega
    have p11 : gPop a s 11 q = a 11 q := by rw [ePop]; simp (disch := omega) only [up2_n]
    have iE : isIn a s ↔ (t % 2 = 0 ∧ (¬ a 3 s = nI 0 ∨ (t / 2 % 8192 = 0 ∧ a 11 q = nI 0))) := by unfold isIn; rw [eE, hq]
    have gE : gCome1 a s = @ite _ (isIn a s) (Classical.propDecidable _) (gComes (gPop a s) s (t / 2 / 8192) (t / 2 % 8192)) (gPop a s) := by unfold gCome1; rw [eE]
    have h157 : ∀ s0 : Nat, s0 < 2 → (s0 = 1 ↔ (t / 2 % 8192 = 0 ∧ a 11 q = nI 0)) → b_X9_come_157 (l_X9_come_63 w m) w (gPop a s) (nI s) (nI c0) (nI j) (nI t) (nI (t / 2 / 8192)) (nI (t / 2 % 8192)) (nI s0) = l_X9_come_63 w m (gCome1 a s) (nI s) (nI c0) (nI (j + 1)) := fun s0 hs0 hs1 => by
      rw [gE]
      by_cases c1 : t % 2 = 0
      · by_cases c2 : a 3 s = nI 0
        · by_cases c3 : s0 = 0
          · have hno : ¬ isIn a s := fun hh => by
              have := (iE.mp hh).2.elim (fun h => absurd c2 h) (fun h => hs1.mpr h)
              omega
            rw [if_neg hno]
            simp (disch := omega) only [b_X9_come_157, b_X9_come_189, p3, c1, c2, c3, if_true, yl, cond_true, cond_false, Option.bind_some, ixn, nI_clamp, nI_add, pk_mul, pk_sub, pk_rem, pk_div, up2_s, up2_n, up1_s, up1_n, mdn, nar0, nar1, q0, q1, q2, q3, q4, q5, q6, q7, q8, q10, q15, q20, q25, q40, q50, q80, q100, q200, q256, q8192, q16384, q65536]
          · have hyes : isIn a s := iE.mpr ⟨c1, Or.inr (hs1.mp (by omega))⟩
            rw [if_pos hyes]
            simp (disch := omega) only [b_X9_come_157, b_X9_come_180, b_X9_come_189, p3, nI_eq, nI_leI, nI_ltI, c1, c2, c3, if_true, if_false, yl, cond_true, cond_false, Option.bind_some, ixn, nI_clamp, nI_add, pk_mul, pk_sub, pk_rem, pk_div, up2_s, up2_n, up1_s, up1_n, mdn, nar0, nar1, q0, q1, q2, q3, q4, q5, q6, q7, q8, q10, q15, q20, q25, q40, q50, q80, q100, q200, q256, q8192, q16384, q65536, hin hyes]
        · have hyes : isIn a s := iE.mpr ⟨c1, Or.inl c2⟩
          rw [if_pos hyes]
          simp (disch := omega) only [b_X9_come_157, b_X9_come_180, b_X9_come_189, p3, c1, c2, if_true, if_false, yl, cond_true, cond_false, Option.bind_some, ixn, nI_clamp, nI_add, pk_mul, pk_sub, pk_rem, pk_div, up2_s, up2_n, up1_s, up1_n, mdn, nar0, nar1, q0, q1, q2, q3, q4, q5, q6, q7, q8, q10, q15, q20, q25, q40, q50, q80, q100, q200, q256, q8192, q16384, q65536, hin hyes]
      · have hno : ¬ isIn a s := fun hh => c1 (iE.mp hh).1
        rw [if_neg hno]
        simp (disch := omega) only [b_X9_come_157, b_X9_come_189, nI_eq, nI_leI, nI_ltI, c1, if_false, yl, cond_true, cond_false, Option.bind_some, ixn, nI_clamp, nI_add, pk_mul, pk_sub, pk_rem, pk_div, up2_s, up2_n, up1_s, up1_n, mdn, nar0, nar1, q0, q1, q2, q3, q4, q5, q6, q7, q8, q10, q15, q20, q25, q40, q50, q80, q100, q200, q256, q8192, q16384, q65536]
    by_cases c1 : t / 2 % 8192 = 0
    · by_cases c2 : a 11 q = nI 0
      · have h := h157 1 (by decide) ⟨fun _ => ⟨c1, c2⟩, fun _ => rfl⟩
        rw [ePop] at h p11
        rw [← h]
        simp (disch := omega) only [l_X9_come_63, b_X9_come_63, nI_eq, nI_leI, nI_ltI, c, if_true, if_false, epl, e21, e19, e20, yl, cond_true, cond_false, Option.bind_some, ixn, nI_clamp, nI_add, pk_mul, pk_sub, pk_rem, pk_div, up2_s, up2_n, up1_s, up1_n, mdn, nar0, nar1, q0, q1, q2, q3, q4, q5, q6, q7, q8, q10, q15, q20, q25, q40, q50, q80, q100, q200, q256, q8192, q16384, q65536, c1, hq, p11, c2]
        try simp (disch := omega) only [c1]
      · have h := h157 0 (by decide) ⟨fun e => absurd e (by decide), fun hh => absurd hh.2 c2⟩
        rw [ePop] at h p11
        rw [← h]
        simp (disch := omega) only [l_X9_come_63, b_X9_come_63, b_X9_come_156, nI_eq, nI_leI, nI_ltI, c, if_true, if_false, epl, e21, e19, e20, yl, cond_true, cond_false, Option.bind_some, ixn, nI_clamp, nI_add, pk_mul, pk_sub, pk_rem, pk_div, up2_s, up2_n, up1_s, up1_n, mdn, nar0, nar1, q0, q1, q2, q3, q4, q5, q6, q7, q8, q10, q15, q20, q25, q40, q50, q80, q100, q200, q256, q8192, q16384, q65536, c1, hq, p11, c2]
        try simp (disch := omega) only [c1]
    · have h := h157 0 (by decide) ⟨fun e => absurd e (by decide), fun hh => absurd hh.1 c1⟩
      rw [ePop] at h p11
      rw [← h]
      simp (disch := omega) only [l_X9_come_63, b_X9_come_63, b_X9_come_156, nI_eq, nI_leI, nI_ltI, c, if_true, if_false, epl, e21, e19, e20, yl, cond_true, cond_false, Option.bind_some, ixn, nI_clamp, nI_add, pk_mul, pk_sub, pk_rem, pk_div, up2_s, up2_n, up1_s, up1_n, mdn, nar0, nar1, q0, q1, q2, q3, q4, q5, q6, q7, q8, q10, q15, q20, q25, q40, q50, q80, q100, q200, q256, q8192, q16384, q65536, c1, hq, p11]
