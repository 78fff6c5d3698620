/-! The reference: a message comes. Loops are run under any property P that is kept. -/
def gTkW (a : AS) (s q : Nat) : AS := if a 11 q = nI 2 then gSends a s (nI 1) (nI 0) (nI 0) (nI 0) (nI 0) else if s = 0 then (if a 11 q = nI 8 then gLearns a q else a) else if a 11 q < nI 5 then a else gWork a q
def gTakes (a : AS) (s n f : Nat) : AS := if 0 < f then up2 a 5 s (nI (if f ≤ n + 1 then n + 1 else f)) else gTkW (up2 a 5 s (nI (n + 1))) s (8192 * (1 - s) + n)
abbrev wkOk (a : AS) (q : Nat) : Prop := ∃ o d e : Nat, a 14 q = nI o ∧ o < 40 ∧ d < 2 ∧ a 23 o = nI d ∧ a 0 35 = nI e ∧ e ≤ 100
def tkOk (a : AS) (s n f : Nat) : Prop := n ≤ 8190 ∧ f ≤ 8191 ∧ (∃ ns k, rgo a s ns k ∧ ns + 2 ≤ 8191 ∧ k ≤ 131070) ∧ (f = 0 → ∃ kd : Nat, a 11 (8192 * (1 - s) + n) = nI kd ∧ kd ≤ 8 ∧ (s = 0 → kd = 8 → repOk a (8192 * (1 - s) + n)) ∧ (s = 1 → kd ≤ 7 ∧ (5 ≤ kd → wkOk a (8192 * (1 - s) + n))))
theorem r_takes {w : Nat} {a : AS} {s n f : Nat} (hs : s < 2) (h : tkOk a s n f) (hw : 200 < w) : f_X9_takes w a (nI s) (nI n) (nI f) = some (gTakes a s n f, 0) := by
  obtain ⟨hn, hf, ⟨ns, k, hr, hns, hk⟩, hkd⟩ := h
  by_cases c : 0 < f
  · have c' : ¬ f ≤ 0 := by omega
    by_cases c1 : f ≤ n + 1
    · simp (disch := omega) only [f_X9_takes, b_X9_takes_19, nI_eq, nI_leI, nI_ltI, c1, c', c, gTakes, if_true, if_false, yl, cond_true, cond_false, Option.bind_some, ixn, nI_clamp, nI_add, pk_mul, pk_sub, pk_rem, pk_div, up2_s, up2_n, up1_s, up1_n, mdn, nar0, nar1, q0, q1, q2, q3, q4, q5, q6, q7, q8, q10, q15, q20, q25, q40, q50, q80, q100, q200, q256, q8192, q16384, q65536]
    · simp (disch := omega) only [f_X9_takes, b_X9_takes_19, nI_eq, nI_leI, nI_ltI, c1, c', c, gTakes, if_true, if_false, yl, cond_true, cond_false, Option.bind_some, ixn, nI_clamp, nI_add, pk_mul, pk_sub, pk_rem, pk_div, up2_s, up2_n, up1_s, up1_n, mdn, nar0, nar1, q0, q1, q2, q3, q4, q5, q6, q7, q8, q10, q15, q20, q25, q40, q50, q80, q100, q200, q256, q8192, q16384, q65536]
  · obtain rfl : f = 0 := by omega
    obtain ⟨kd, e11, hk8, h0, h1⟩ := hkd rfl
    have hr' : rgo (up2 a 5 s (nI (n + 1))) s ns k := rgo_of hr (up2_n _ _ (by omega)) (up2_n _ _ (by omega)) (up2_n _ _ (by omega))
    obtain ⟨e4, ⟨h, e19, hh⟩, e20⟩ := hr'
    have hsd := r_sends (w := w) (kd := nI 1) (o1 := nI 0) (o2 := nI 0) (o3 := nI 0) (o4 := nI 0) hs e4 (by omega) e19 hh e20 (by omega)
    have g11 : up2 a 5 s (nI (n + 1)) 11 (8192 * (1 - s) + n) = nI kd := (up2_n _ _ (by omega)).trans e11
    have hz : (0 : Nat) ≤ n + 1 := by omega
    have hg : gTakes a s n 0 = gTkW (up2 a 5 s (nI (n + 1))) s (8192 * (1 - s) + n) := by unfold gTakes; rw [if_neg (by decide)]
    rw [hg]
    generalize hb : up2 a 5 s (nI (n + 1)) = b at *
    have step : f_X9_takes w a (nI s) (nI n) (nI 0) = (if kd = 2 then some (gSends b s (nI 1) (nI 0) (nI 0) (nI 0) (nI 0), nI 0) else if kd = 8 then (if s = 0 then (f_X9_learns w b (nI (8192 * (1 - s) + n))).bind (fun v7 => some (v7.1, nI 0)) else b_X9_takes_85 w b (nI s) (nI (8192 * (1 - s) + n))) else b_X9_takes_85 w b (nI s) (nI (8192 * (1 - s) + n))) := by
      simp (disch := omega) only [f_X9_takes, b_X9_takes_19, nI_eq, nI_leI, nI_ltI, hz, Nat.le_refl, if_true, yl, cond_true, cond_false, Option.bind_some, ixn, nI_clamp, nI_add, pk_mul, pk_sub, pk_rem, pk_div, up2_s, up2_n, up1_s, up1_n, mdn, nar0, nar1, q0, q1, q2, q3, q4, q5, q6, q7, q8, q10, q15, q20, q25, q40, q50, q80, q100, q200, q256, q8192, q16384, q65536, hb, e11, hsd]
    rw [step]
    unfold gTkW
    rw [g11]
    by_cases c2 : kd = 2
    · subst c2; rw [if_pos rfl, if_pos rfl]; rfl
    · rw [if_neg c2, if_neg (show ¬ nI kd = nI 2 from fun e => c2 ((nI_eq (by omega) (by decide)).mp e))]
      have n01 : ¬ nI 0 = nI 1 := by decide
      rcases (show s = 0 ∨ s = 1 by omega) with rfl | rfl
      · by_cases c8 : kd = 8
        · subst c8
          have hrep : repOk b (8192 * (1 - 0) + n) := by
            obtain ⟨z1, σ, o, z2, z3, z4, z5, z6, z7⟩ := h0 rfl rfl
            have hu : ∀ k i : Nat, k ≠ 5 → b k i = a k i := fun k i hk => by rw [← hb]; exact up2_n _ _ (by omega)
            refine ⟨z1, σ, o, (hu _ _ (by decide)).trans z2, z3, (hu _ _ (by decide)).trans z4, z5, fun hh => ?_, fun hh => ?_⟩
            · obtain ⟨f, t, y1, y2, y3⟩ := z6 hh
              exact ⟨f, t, (hu _ _ (by decide)).trans y1, (hu _ _ (by decide)).trans y2, y3⟩
            · obtain ⟨e, y1, y2⟩ := z7 hh
              exact ⟨e, (hu _ _ (by decide)).trans y1, y2⟩
          rw [if_pos rfl, if_pos rfl, if_pos rfl, if_pos rfl, r_learns hrep (by omega)]
          rfl
        · rw [if_neg c8, if_pos rfl, if_neg (show ¬ nI kd = nI 8 from fun e => c8 ((nI_eq (by omega) (by decide)).mp e))]
          by_cases c5 : kd < 5
          · simp (disch := omega) only [b_X9_takes_85, nI_eq, nI_leI, nI_ltI, c5, if_true, yl, cond_true, cond_false, Option.bind_some, ixn, nI_clamp, nI_add, pk_mul, pk_sub, pk_rem, pk_div, up2_s, up2_n, up1_s, up1_n, mdn, nar0, nar1, q0, q1, q2, q3, q4, q5, q6, q7, q8, q10, q15, q20, q25, q40, q50, q80, q100, q200, q256, q8192, q16384, q65536, g11]
          · simp (disch := omega) only [b_X9_takes_85, nI_eq, nI_leI, nI_ltI, c5, n01, if_false, yl, cond_true, cond_false, Option.bind_some, ixn, nI_clamp, nI_add, pk_mul, pk_sub, pk_rem, pk_div, up2_s, up2_n, up1_s, up1_n, mdn, nar0, nar1, q0, q1, q2, q3, q4, q5, q6, q7, q8, q10, q15, q20, q25, q40, q50, q80, q100, q200, q256, q8192, q16384, q65536, g11]
            try simp
      · obtain ⟨h7, hwk⟩ := h1 rfl
        rw [if_neg (show ¬ kd = 8 by omega), if_neg (by decide)]
        by_cases c5 : kd < 5
        · rw [if_pos (show nI kd < nI 5 from (nI_ltI (by omega) (by decide)).mpr c5)]
          simp (disch := omega) only [b_X9_takes_85, nI_eq, nI_leI, nI_ltI, c5, if_true, yl, cond_true, cond_false, Option.bind_some, ixn, nI_clamp, nI_add, pk_mul, pk_sub, pk_rem, pk_div, up2_s, up2_n, up1_s, up1_n, mdn, nar0, nar1, q0, q1, q2, q3, q4, q5, q6, q7, q8, q10, q15, q20, q25, q40, q50, q80, q100, q200, q256, q8192, q16384, q65536, g11]
        · rw [if_neg (show ¬ nI kd < nI 5 from fun e => c5 ((nI_ltI (by omega) (by decide)).mp e))]
          obtain ⟨o, d, e, y1, y2, y3, y4, y5, y6⟩ := hwk (by omega)
          have hu : ∀ k i : Nat, k ≠ 5 → b k i = a k i := fun k i hk => by rw [← hb]; exact up2_n _ _ (by omega)
          have hwk' := r_work (w := w) (a := b) (q := 8192 * (1 - 1) + n) (by omega) ((hu _ _ (by decide)).trans y1) y2 y3 ((hu _ _ (by decide)).trans y4) ((hu _ _ (by decide)).trans y5) y6 ⟨e4, ⟨h, e19, hh⟩, e20⟩ (by omega) hk hw (by
            rcases (show kd = 5 ∨ kd = 6 ∨ kd = 7 by omega) with rfl | rfl | rfl
            · exact Or.inl g11
            · exact Or.inr (Or.inl g11)
            · exact Or.inr (Or.inr g11))
          simp (disch := omega) only [b_X9_takes_85, nI_eq, nI_leI, nI_ltI, c5, if_true, if_false, yl, cond_true, cond_false, Option.bind_some, ixn, nI_clamp, nI_add, pk_mul, pk_sub, pk_rem, pk_div, up2_s, up2_n, up1_s, up1_n, mdn, nar0, nar1, q0, q1, q2, q3, q4, q5, q6, q7, q8, q10, q15, q20, q25, q40, q50, q80, q100, q200, q256, q8192, q16384, q65536, g11, hwk']
/-- what is held back below the expected number is thrown away -/
def gThr1 (a : AS) (s n : Nat) : AS := up2 (up2 a 6 s (a 6 s - (if a 18 (8192 * s + n) ≤ nI 0 then nI 0 else nI 1))) 18 (8192 * s + n) (nI 0)
def gThrL (s : Nat) : Nat → Nat → AS → AS
  | 0, _, a => a
  | d + 1, n, a => gThrL s d (n + 1) (gThr1 a s n)
def gThrow (a : AS) (s : Nat) : AS := gThrL s (tn (a 5 s)) 0 a
theorem gThr1_k (a : AS) (s n k i : Nat) (h : k ≠ 6) (h1 : k ≠ 18) : gThr1 a s n k i = a k i := by
  simp (disch := omega) only [gThr1, up2_n]
theorem gThrL_k (s : Nat) : ∀ (d n : Nat) (a : AS) (k i : Nat), k ≠ 6 → k ≠ 18 → gThrL s d n a k i = a k i := by
  intro d
  induction d with
  | zero => intro n a k i _ _; rfl
  | succ d ih => intro n a k i h h1; exact (ih _ _ _ _ h h1).trans (gThr1_k _ _ _ _ _ h h1)
theorem r_throwL {w s E : Nat} (hs : s < 2) (hE : E ≤ 8191) : ∀ (d n m : Nat) (a : AS), n + d = E → d < m → a 5 s = nI E → l_X9_throwsAway_2 w m a (nI s) (nI n) = some (gThrL s d n a, 0) := by
  intro d
  induction d with
  | zero =>
    intro n m a h1 h2 e5
    obtain ⟨m, rfl⟩ : ∃ m', m = m' + 1 := ⟨m - 1, by omega⟩
    have c : E ≤ n := by omega
    simp (disch := omega) only [l_X9_throwsAway_2, b_X9_throwsAway_2, e5, nI_eq, nI_leI, nI_ltI, c, if_true, gThrL, yl, cond_true, cond_false, Option.bind_some, ixn, nI_clamp, nI_add, pk_mul, pk_sub, pk_rem, pk_div, up2_s, up2_n, up1_s, up1_n, mdn, nar0, nar1, q0, q1, q2, q3, q4, q5, q6, q7, q8, q10, q15, q20, q25, q40, q50, q80, q100, q200, q256, q8192, q16384, q65536]
  | succ d ih =>
    intro n m a h1 h2 e5
    obtain ⟨m, rfl⟩ : ∃ m', m = m' + 1 := ⟨m - 1, by omega⟩
    have c : ¬ E ≤ n := by omega
    show _ = some (gThrL s d (n + 1) (gThr1 a s n), 0)
    rw [← ih (n + 1) m (gThr1 a s n) (by omega) (by omega) ((gThr1_k _ _ _ _ _ (by decide) (by decide)).trans e5)]
    by_cases c1 : a 18 (8192 * s + n) ≤ nI 0
    · simp (disch := omega) only [l_X9_throwsAway_2, b_X9_throwsAway_2, b_X9_throwsAway_39, e5, nI_eq, nI_leI, nI_ltI, c, c1, if_true, if_false, gThr1, yl, cond_true, cond_false, Option.bind_some, ixn, nI_clamp, nI_add, pk_mul, pk_sub, pk_rem, pk_div, up2_s, up2_n, up1_s, up1_n, mdn, nar0, nar1, q0, q1, q2, q3, q4, q5, q6, q7, q8, q10, q15, q20, q25, q40, q50, q80, q100, q200, q256, q8192, q16384, q65536]
    · simp (disch := omega) only [l_X9_throwsAway_2, b_X9_throwsAway_2, b_X9_throwsAway_39, e5, nI_eq, nI_leI, nI_ltI, c, c1, if_true, if_false, gThr1, yl, cond_true, cond_false, Option.bind_some, ixn, nI_clamp, nI_add, pk_mul, pk_sub, pk_rem, pk_div, up2_s, up2_n, up1_s, up1_n, mdn, nar0, nar1, q0, q1, q2, q3, q4, q5, q6, q7, q8, q10, q15, q20, q25, q40, q50, q80, q100, q200, q256, q8192, q16384, q65536]
theorem r_throw {w s E : Nat} {a : AS} (hs : s < 2) (e5 : a 5 s = nI E) (hE : E ≤ 8191) (hw : 8192 < w) : f_X9_throwsAway w a (nI s) = some (gThrow a s, 0) := by
  unfold gThrow
  rw [e5, tnI (by omega)]
  exact r_throwL hs hE E 0 w a (by omega) (by omega) e5
/-- the held message with the expected number is taken -/
def gHd0 (a : AS) (s : Nat) : AS := up2 (up2 a 18 (8192 * s + tn (a 5 s)) (nI 0)) 6 s (a 6 s - nI 1)
def hdF (a : AS) (s : Nat) : Nat := if a 18 (8192 * s + tn (a 5 s)) = nI 1 then 0 else tn (a 18 (8192 * s + tn (a 5 s))) - 2
def gHd1 (a : AS) (s : Nat) : AS := gThrow (gTakes (gHd0 a s) s (tn (a 5 s)) (hdF a s)) s
def gHdL (s : Nat) : Nat → AS → AS
  | 0, a => a
  | k + 1, a => if a 18 (8192 * s + tn (a 5 s)) ≤ nI 0 then a else gHdL s k (gHd1 a s)
def gHeld (a : AS) (s : Nat) : AS := gHdL s 8193 (gThrow a s)
/-- what a turn of the loop wants -/
def hdOk (a : AS) (s : Nat) : Prop := ∃ E v : Nat, a 5 s = nI E ∧ E ≤ 8191 ∧ a 18 (8192 * s + E) = nI v ∧ v ≤ 8193 ∧ (1 < v → 3 ≤ v) ∧ (0 < v → tkOk (gHd0 a s) s E (if v = 1 then 0 else v - 2) ∧ ∃ E', gTakes (gHd0 a s) s E (if v = 1 then 0 else v - 2) 5 s = nI E' ∧ E < E' ∧ E' ≤ 8191)
theorem r_heldL {w s : Nat} (hs : s < 2) (hw : 8192 < w) (P : AS → Prop) (hP : ∀ a, P a → hdOk a s) (hN : ∀ a, P a → ¬ a 18 (8192 * s + tn (a 5 s)) ≤ nI 0 → P (gHd1 a s)) : ∀ (k m : Nat) (a : AS), P a → 8191 ≤ k + tn (a 5 s) → k < m → l_X9_takesHeld_5 w m a (nI s) = some (gHdL s (k + 1) a, 0) := by
  intro k
  induction k with
  | zero =>
    intro m a hp hk hm
    obtain ⟨m, rfl⟩ : ∃ m', m = m' + 1 := ⟨m - 1, by omega⟩
    obtain ⟨E, v, e5, hE, e18, hv, hv3, hx⟩ := hP a hp
    rw [e5, tnI (by omega)] at hk
    have hv0 : v = 0 := Classical.byContradiction fun hc => by
      obtain ⟨-, E', -, g1, g2⟩ := hx (by omega)
      omega
    subst hv0
    have hg : gHdL s 1 a = a := by
      show (if _ then _ else _) = _
      rw [e5, tnI (by omega), e18, if_pos (by decide)]
    rw [hg]
    simp (disch := omega) only [l_X9_takesHeld_5, b_X9_takesHeld_5, e5, e18, nI_eq, nI_leI, nI_ltI, Nat.le_refl, if_true, yl, cond_true, cond_false, Option.bind_some, ixn, nI_clamp, nI_add, pk_mul, pk_sub, pk_rem, pk_div, up2_s, up2_n, up1_s, up1_n, mdn, nar0, nar1, q0, q1, q2, q3, q4, q5, q6, q7, q8, q10, q15, q20, q25, q40, q50, q80, q100, q200, q256, q8192, q16384, q65536]
  | succ k ih =>
    intro m a hp hk hm
    obtain ⟨m, rfl⟩ : ∃ m', m = m' + 1 := ⟨m - 1, by omega⟩
    obtain ⟨E, v, e5, hE, e18, hv, hv3, hx⟩ := hP a hp
    have hN' := hN a hp
    have et : tn (a 5 s) = E := by rw [e5, tnI (by omega)]
    rw [et] at hk hN'
    by_cases hv0 : v = 0
    · subst hv0
      have hg : gHdL s (k + 1 + 1) a = a := by
        show (if _ then _ else _) = _
        rw [et, e18, if_pos (by decide)]
      rw [hg]
      simp (disch := omega) only [l_X9_takesHeld_5, b_X9_takesHeld_5, e5, e18, nI_eq, nI_leI, nI_ltI, Nat.le_refl, if_true, yl, cond_true, cond_false, Option.bind_some, ixn, nI_clamp, nI_add, pk_mul, pk_sub, pk_rem, pk_div, up2_s, up2_n, up1_s, up1_n, mdn, nar0, nar1, q0, q1, q2, q3, q4, q5, q6, q7, q8, q10, q15, q20, q25, q40, q50, q80, q100, q200, q256, q8192, q16384, q65536]
    · obtain ⟨ht, E', e5', g1, g2⟩ := hx (by omega)
      have c0 : ¬ v ≤ 0 := by omega
      have hne : ¬ a 18 (8192 * s + E) ≤ nI 0 := by rw [e18]; exact fun h => c0 ((nI_leI (by omega) (by decide)).mp h)
      have hp' := hN' hne
      have hF : hdF a s = if v = 1 then 0 else v - 2 := by
        unfold hdF
        rw [et, e18, tnI (by omega)]
        by_cases c : v = 1
        · rw [if_pos c, if_pos (by rw [c])]
        · rw [if_neg c, if_neg (fun h => c ((nI_eq (by omega) (by decide)).mp h))]
      have hg : gHdL s (k + 1 + 1) a = gHdL s (k + 1) (gHd1 a s) := by
        show (if _ then _ else _) = _
        rw [et, if_neg hne]
      have hg1 : gHd1 a s = gThrow (gTakes (gHd0 a s) s E (if v = 1 then 0 else v - 2)) s := by unfold gHd1; rw [et, hF]
      have e5'' : gHd1 a s 5 s = nI E' := by rw [hg1]; exact (gThrL_k _ _ _ _ _ _ (by decide) (by decide)).trans e5'
      have hih := ih m (gHd1 a s) hp' (by rw [e5'', tnI (by omega)]; omega) (by omega)
      rw [hg, ← hih, hg1]
      have htk := r_takes (w := w) hs ht (by omega)
      have hth := r_throw (w := w) hs e5' g2 hw
      have h0 : gHd0 a s = up2 (up2 a 18 (8192 * s + E) (nI 0)) 6 s (a 6 s - nI 1) := by unfold gHd0; rw [et]
      rw [h0] at htk hth ⊢
      by_cases c1 : v = 1
      · subst c1
        rw [if_pos rfl] at htk hth ⊢
        simp (disch := omega) only [l_X9_takesHeld_5, b_X9_takesHeld_5, b_X9_takesHeld_83, e5, e18, nI_eq, nI_leI, nI_ltI, c0, if_true, if_false, yl, cond_true, cond_false, Option.bind_some, ixn, nI_clamp, nI_add, pk_mul, pk_sub, pk_rem, pk_div, up2_s, up2_n, up1_s, up1_n, mdn, nar0, nar1, q0, q1, q2, q3, q4, q5, q6, q7, q8, q10, q15, q20, q25, q40, q50, q80, q100, q200, q256, q8192, q16384, q65536, htk, hth]
      · rw [if_neg c1] at htk hth ⊢
        simp (disch := omega) only [l_X9_takesHeld_5, b_X9_takesHeld_5, b_X9_takesHeld_83, e5, e18, nI_eq, nI_leI, nI_ltI, c0, c1, if_true, if_false, yl, cond_true, cond_false, Option.bind_some, ixn, nI_clamp, nI_add, pk_mul, pk_sub, pk_rem, pk_div, up2_s, up2_n, up1_s, up1_n, mdn, nar0, nar1, q0, q1, q2, q3, q4, q5, q6, q7, q8, q10, q15, q20, q25, q40, q50, q80, q100, q200, q256, q8192, q16384, q65536, htk, hth]
theorem r_held {w s E : Nat} {a : AS} (hs : s < 2) (hw : 8192 < w) (P : AS → Prop) (hP : ∀ a, P a → hdOk a s) (hN : ∀ a, P a → ¬ a 18 (8192 * s + tn (a 5 s)) ≤ nI 0 → P (gHd1 a s)) (e5 : a 5 s = nI E) (hE : E ≤ 8191) (hp : P (gThrow a s)) : f_X9_takesHeld w a (nI s) = some (gHeld a s, 0) := by
  unfold f_X9_takesHeld gHeld
  rw [r_throw hs e5 hE hw]
  simp only [Option.bind_some]
  exact r_heldL hs hw P hP hN 8192 w (gThrow a s) hp (by omega) (by omega)
/-- a message is held back, and asked for what is missing -/
def gHold (a : AS) (s n f : Nat) : AS := up2 (up2 a 6 s (a 6 s + (if a 18 (8192 * s + n) = nI 0 then nI 1 else nI 0))) 18 (8192 * s + n) (if f = 0 then nI 1 else nI (f + 2))
def gAsk (a : AS) (s : Nat) : AS := if a 7 s = a 5 s ∧ a 0 1 - a 8 s < nI 5 then a else gSends (up2 (up2 a 7 s (a 5 s)) 8 s (a 0 1)) s (nI 3) (a 5 s) (nI 0) (nI 0) (nI 0)
theorem r_hold {w : Nat} {a : AS} {s n f ns k : Nat} (hs : s < 2) (hn : n ≤ 8190) (hf : f ≤ 8191) (hr : rgo a s ns k) (hns : ns + 1 ≤ 8191) (hk : k ≤ 131070) : f_X9_holdsBack w a (nI s) (nI n) (nI f) = some (gAsk (gHold a s n f) s, 0) := by
  have key : ∀ z s0 : Int32, b_X9_holdsBack_50 w (up2 a 6 s z) (nI s) s0 (nI (8192 * s + n)) = some (gAsk (up2 (up2 a 6 s z) 18 (8192 * s + n) s0) s, 0) := fun z s0 => by
    have hsd : f_X9_sends w (up2 (up2 (up2 (up2 a 6 s z) 18 (8192 * s + n) s0) 7 s (a 5 s)) 8 s (a 0 1)) (nI s) (nI 3) (a 5 s) (nI 0) (nI 0) (nI 0) = some (gSends (up2 (up2 (up2 (up2 a 6 s z) 18 (8192 * s + n) s0) 7 s (a 5 s)) 8 s (a 0 1)) s (nI 3) (a 5 s) (nI 0) (nI 0) (nI 0), 0) := by
      obtain ⟨e4, ⟨h, e19, hh⟩, e20⟩ := hr
      refine r_sends (h := h) (k := k) hs ?_ hns ?_ hh ?_ (by omega)
      · simp (disch := omega) only [up2_n, e4]
      · simp (disch := omega) only [up2_n, e19]
      · simp (disch := omega) only [up2_n, e20]
    by_cases c1 : a 7 s = a 5 s
    · by_cases c2 : a 0 1 - a 8 s < nI 5
      · simp (disch := omega) only [b_X9_holdsBack_50, gAsk, yl, cond_true, cond_false, Option.bind_some, ixn, nI_clamp, nI_add, pk_mul, pk_sub, pk_rem, pk_div, up2_s, up2_n, up1_s, up1_n, mdn, nar0, nar1, q0, q1, q2, q3, q4, q5, q6, q7, q8, q10, q15, q20, q25, q40, q50, q80, q100, q200, q256, q8192, q16384, q65536, c1, c2, if_true, true_and]
      · simp (disch := omega) only [b_X9_holdsBack_50, b_X9_holdsBack_81, gAsk, yl, cond_true, cond_false, Option.bind_some, ixn, nI_clamp, nI_add, pk_mul, pk_sub, pk_rem, pk_div, up2_s, up2_n, up1_s, up1_n, mdn, nar0, nar1, q0, q1, q2, q3, q4, q5, q6, q7, q8, q10, q15, q20, q25, q40, q50, q80, q100, q200, q256, q8192, q16384, q65536, c1, c2, if_true, if_false, and_false, hsd]
    · simp (disch := omega) only [b_X9_holdsBack_50, b_X9_holdsBack_81, gAsk, yl, cond_true, cond_false, Option.bind_some, ixn, nI_clamp, nI_add, pk_mul, pk_sub, pk_rem, pk_div, up2_s, up2_n, up1_s, up1_n, mdn, nar0, nar1, q0, q1, q2, q3, q4, q5, q6, q7, q8, q10, q15, q20, q25, q40, q50, q80, q100, q200, q256, q8192, q16384, q65536, c1, if_false, false_and, hsd]
  unfold gHold
  by_cases c : a 18 (8192 * s + n) = nI 0
  · simp only [c, if_true]
    by_cases c1 : f = 0
    · subst c1
      simp (disch := omega) only [f_X9_holdsBack, b_X9_holdsBack_31, c, if_true, yl, cond_true, cond_false, Option.bind_some, ixn, nI_clamp, nI_add, pk_mul, pk_sub, pk_rem, pk_div, up2_s, up2_n, up1_s, up1_n, mdn, nar0, nar1, q0, q1, q2, q3, q4, q5, q6, q7, q8, q10, q15, q20, q25, q40, q50, q80, q100, q200, q256, q8192, q16384, q65536, key]
    · simp (disch := omega) only [f_X9_holdsBack, b_X9_holdsBack_31, nI_eq, nI_leI, nI_ltI, c, c1, if_true, if_false, yl, cond_true, cond_false, Option.bind_some, ixn, nI_clamp, nI_add, pk_mul, pk_sub, pk_rem, pk_div, up2_s, up2_n, up1_s, up1_n, mdn, nar0, nar1, q0, q1, q2, q3, q4, q5, q6, q7, q8, q10, q15, q20, q25, q40, q50, q80, q100, q200, q256, q8192, q16384, q65536, key]
  · simp only [c, if_false]
    by_cases c1 : f = 0
    · subst c1
      simp (disch := omega) only [f_X9_holdsBack, b_X9_holdsBack_31, c, if_true, if_false, yl, cond_true, cond_false, Option.bind_some, ixn, nI_clamp, nI_add, pk_mul, pk_sub, pk_rem, pk_div, up2_s, up2_n, up1_s, up1_n, mdn, nar0, nar1, q0, q1, q2, q3, q4, q5, q6, q7, q8, q10, q15, q20, q25, q40, q50, q80, q100, q200, q256, q8192, q16384, q65536, key]
    · simp (disch := omega) only [f_X9_holdsBack, b_X9_holdsBack_31, nI_eq, nI_leI, nI_ltI, c, c1, if_true, if_false, yl, cond_true, cond_false, Option.bind_some, ixn, nI_clamp, nI_add, pk_mul, pk_sub, pk_rem, pk_div, up2_s, up2_n, up1_s, up1_n, mdn, nar0, nar1, q0, q1, q2, q3, q4, q5, q6, q7, q8, q10, q15, q20, q25, q40, q50, q80, q100, q200, q256, q8192, q16384, q65536, key]
