/-! The reference: garble, pass, connect, cut. -/
theorem r_in {w : Nat} {a : AS} {x lo hi : Int32} : f_X9_in w a x lo hi = some (if x < lo ∨ hi < x then nI 0 else nI 1) := by
  unfold f_X9_in
  by_cases c1 : x < lo
  · rw [if_pos c1, if_pos (Or.inl c1)]; rfl
  · by_cases c2 : hi < x
    · rw [if_neg c1, if_pos c2, if_pos (Or.inr c2)]; rfl
    · rw [if_neg c1, if_neg c2, if_neg (fun h => h.elim c1 c2)]; rfl
/-- one side's turn in a tick: the state and how many messages it sends -/
def gWt1 (x : AS × Nat) (s : Nat) : AS × Nat := if x.1 0 1 - x.1 9 s < nI 10 then x else (gSends x.1 s (nI 1) (nI 0) (nI 0) (nI 0) (nI 0), x.2 + 1)
def gWt2 (x : AS × Nat) (s : Nat) : AS × Nat := if x.1 0 1 - x.1 10 s = nI 15 then (gSends x.1 s (nI 2) (nI 0) (nI 0) (nI 0) (nI 0), x.2 + 1) else x
def gWt3 (x : AS × Nat) (s : Nat) : AS × Nat := if x.1 0 1 - x.1 10 s < nI 25 then x else (gDown x.1, x.2)
def gWt (a : AS) (s : Nat) : AS × Nat := gWt3 (gWt2 (gWt1 (a, 0) s) s) s
theorem r_watches {w : Nat} {a : AS} {s n k : Nat} (hs : s < 2) (hr : rgo a s n k) (hn : n + 2 ≤ 8191) (hk : k ≤ 131070) (hw : 8192 < w) : f_X9_watches w a (nI s) = some ((gWt a s).1, nI (gWt a s).2) := by
  have h60 : ∀ (b : AS) (c : Nat), b_X9_watches_60 w b (nI s) (nI c) = some ((gWt3 (b, c) s).1, nI (gWt3 (b, c) s).2) := fun b c => by
    unfold gWt3
    by_cases c1 : b 0 1 - b 10 s < nI 25
    · simp (disch := omega) only [b_X9_watches_60, c1, if_true, yl, cond_true, cond_false, Option.bind_some, ixn, nI_clamp, nI_add, pk_mul, pk_sub, pk_rem, pk_div, up2_s, up2_n, up1_s, up1_n, mdn, nar0, nar1, q0, q1, q2, q3, q4, q5, q6, q7, q8, q10, q15, q20, q25, q40, q50, q80, q100, q200, q256, q8192, q16384, q65536]
    · simp (disch := omega) only [b_X9_watches_60, c1, if_false, yl, cond_true, cond_false, Option.bind_some, ixn, nI_clamp, nI_add, pk_mul, pk_sub, pk_rem, pk_div, up2_s, up2_n, up1_s, up1_n, mdn, nar0, nar1, q0, q1, q2, q3, q4, q5, q6, q7, q8, q10, q15, q20, q25, q40, q50, q80, q100, q200, q256, q8192, q16384, q65536, r_down hw]
  have h31 : ∀ (b : AS) (c n' k' : Nat), rgo b s n' k' → n' + 1 ≤ 8191 → k' ≤ 131071 → b_X9_watches_31 w b (nI s) (nI c) = some ((gWt3 (gWt2 (b, c) s) s).1, nI (gWt3 (gWt2 (b, c) s) s).2) := fun b c n' k' hr' hn' hk' => by
    obtain ⟨e4, ⟨h, e19, hh⟩, e20⟩ := hr'
    have hsd := r_sends (w := w) (kd := nI 2) (o1 := nI 0) (o2 := nI 0) (o3 := nI 0) (o4 := nI 0) hs e4 hn' e19 hh e20 (by omega)
    by_cases c1 : b 0 1 - b 10 s = nI 15
    · have hg : gWt2 (b, c) s = (gSends b s (nI 2) (nI 0) (nI 0) (nI 0) (nI 0), c + 1) := if_pos c1
      rw [hg, ← h60]
      simp (disch := omega) only [b_X9_watches_31, c1, if_true, yl, cond_true, cond_false, Option.bind_some, ixn, nI_clamp, nI_add, pk_mul, pk_sub, pk_rem, pk_div, up2_s, up2_n, up1_s, up1_n, mdn, nar0, nar1, q0, q1, q2, q3, q4, q5, q6, q7, q8, q10, q15, q20, q25, q40, q50, q80, q100, q200, q256, q8192, q16384, q65536, hsd]
    · have hg : gWt2 (b, c) s = (b, c) := if_neg c1
      rw [hg, ← h60]
      simp (disch := omega) only [b_X9_watches_31, c1, if_false, yl, cond_true, cond_false, Option.bind_some, ixn, nI_clamp, nI_add, pk_mul, pk_sub, pk_rem, pk_div, up2_s, up2_n, up1_s, up1_n, mdn, nar0, nar1, q0, q1, q2, q3, q4, q5, q6, q7, q8, q10, q15, q20, q25, q40, q50, q80, q100, q200, q256, q8192, q16384, q65536]
  obtain ⟨e4, ⟨h, e19, hh⟩, e20⟩ := id hr
  have hsd := r_sends (w := w) (kd := nI 1) (o1 := nI 0) (o2 := nI 0) (o3 := nI 0) (o4 := nI 0) hs e4 (by omega) e19 hh e20 (by omega)
  unfold gWt
  by_cases c1 : a 0 1 - a 9 s < nI 10
  · have hg : gWt1 (a, 0) s = (a, 0) := if_pos c1
    rw [hg, ← h31 a 0 n k hr (by omega) (by omega)]
    simp (disch := omega) only [f_X9_watches, c1, if_true, yl, cond_true, cond_false, Option.bind_some, ixn, nI_clamp, nI_add, pk_mul, pk_sub, pk_rem, pk_div, up2_s, up2_n, up1_s, up1_n, mdn, nar0, nar1, q0, q1, q2, q3, q4, q5, q6, q7, q8, q10, q15, q20, q25, q40, q50, q80, q100, q200, q256, q8192, q16384, q65536]
  · have hg : gWt1 (a, 0) s = (gSends a s (nI 1) (nI 0) (nI 0) (nI 0) (nI 0), 0 + 1) := if_neg c1
    obtain ⟨k', hr', hk1, hk2⟩ := gSends_rgo (kd := nI 1) (o1 := nI 0) (o2 := nI 0) (o3 := nI 0) (o4 := nI 0) hr (by omega) (by omega)
    rw [hg, ← h31 _ (0 + 1) (n + 1) k' hr' (by omega) (by omega)]
    simp (disch := omega) only [f_X9_watches, c1, if_false, yl, cond_true, cond_false, Option.bind_some, ixn, nI_clamp, nI_add, pk_mul, pk_sub, pk_rem, pk_div, up2_s, up2_n, up1_s, up1_n, mdn, nar0, nar1, q0, q1, q2, q3, q4, q5, q6, q7, q8, q10, q15, q20, q25, q40, q50, q80, q100, q200, q256, q8192, q16384, q65536, hsd]
/-- a tick: the state and how many messages are sent -/
def gTk0 (a : AS) : AS := up2 a 0 1 (a 0 1 + 1)
def gTk1 (a : AS) : AS × Nat := if gTk0 a 3 0 = nI 0 then (gTk0 a, 0) else gWt (gTk0 a) 0
def gTk2 (a : AS) : AS × Nat := if (gTk1 a).1 3 1 = nI 0 then ((gTk1 a).1, 0) else gWt (gTk1 a).1 1
def gTkL : Nat → AS → Nat → AS × Nat
  | 0, a, c => (a, c)
  | d + 1, a, c => gTkL d (gTk2 a).1 (c + (gTk1 a).2 + (gTk2 a).2)
/-- what a tick wants -/
def tickOk (a : AS) : Prop := a 0 0 = nI 0 ∧ (gTk1 a).1 0 0 = nI 0 ∧ (gTk2 a).1 0 0 = nI 0 ∧ (∃ n k, rgo (gTk0 a) 0 n k ∧ n + 2 ≤ 8191 ∧ k ≤ 131070) ∧ ∃ n k, rgo (gTk1 a).1 1 n k ∧ n + 2 ≤ 8191 ∧ k ≤ 131070
theorem r_passL {w t : Nat} (ht : t ≤ 50) (hw : 8192 < w) : ∀ (d j m c : Nat) (a : AS), j + d = t → d < m → a 0 0 = nI 0 → (∀ i, i < d → ∀ c, tickOk (gTkL i a c).1) → l_X9_pass_23 w m a (nI t) (nI c) (nI j) = some ((gTkL d a c).1, nI (gTkL d a c).2) := by
  intro d
  induction d with
  | zero =>
    intro j m c a h1 h2 h0 h3
    obtain ⟨m, rfl⟩ : ∃ m', m = m' + 1 := ⟨m - 1, by omega⟩
    have c1 : t ≤ j := by omega
    simp (disch := omega) only [l_X9_pass_23, b_X9_pass_23, nI_eq, nI_leI, nI_ltI, c1, if_true, gTkL, yl, cond_true, cond_false, Option.bind_some, ixn, nI_clamp, nI_add, pk_mul, pk_sub, pk_rem, pk_div, up2_s, up2_n, up1_s, up1_n, mdn, nar0, nar1, q0, q1, q2, q3, q4, q5, q6, q7, q8, q10, q15, q20, q25, q40, q50, q80, q100, q200, q256, q8192, q16384, q65536]
  | succ d ih =>
    intro j m c a h1 h2 h0 h3
    obtain ⟨m, rfl⟩ : ∃ m', m = m' + 1 := ⟨m - 1, by omega⟩
    have c1 : ¬ t ≤ j := by omega
    have hp : tickOk a := h3 0 (by omega) 0
    obtain ⟨-, -, z0, ⟨n, k, hr, hn, hk⟩, n', k', hr', hn', hk'⟩ := hp
    have hih := ih (j + 1) m (c + (gTk1 a).2 + (gTk2 a).2) (gTk2 a).1 (by omega) (by omega) z0 (fun i hi c' => by
      have := h3 (i + 1) (by omega) 0
      have e : ∀ (i : Nat) (b : AS) (c c' : Nat), (gTkL i b c).1 = (gTkL i b c').1 := fun i => by
        induction i with
        | zero => intro b c c'; rfl
        | succ i ih2 => intro b c c'; exact ih2 _ _ _
      rw [e i _ c' (0 + (gTk1 a).2 + (gTk2 a).2)]
      exact this)
    show _ = some ((gTkL d (gTk2 a).1 (c + (gTk1 a).2 + (gTk2 a).2)).1, nI (gTkL d (gTk2 a).1 (c + (gTk1 a).2 + (gTk2 a).2)).2)
    rw [← hih]
    have w0 := r_watches (w := w) (s := 0) (by decide) hr hn hk hw
    have w1 := r_watches (w := w) (s := 1) (by decide) hr' hn' hk' hw
    have h64 : b_X9_pass_64 (l_X9_pass_23 w m) w (gTk1 a).1 (nI t) (nI j) (nI (gTk1 a).2) (nI c) = l_X9_pass_23 w m (gTk2 a).1 (nI t) (nI (c + (gTk1 a).2 + (gTk2 a).2)) (nI (j + 1)) := by
      by_cases c3 : (gTk1 a).1 3 1 = nI 0
      · have hg : gTk2 a = ((gTk1 a).1, 0) := if_pos c3
        rw [hg]
        simp (disch := omega) only [b_X9_pass_64, b_X9_pass_85, c3, if_true, yl, cond_true, cond_false, Option.bind_some, ixn, nI_clamp, nI_add, pk_mul, pk_sub, pk_rem, pk_div, up2_s, up2_n, up1_s, up1_n, mdn, nar0, nar1, q0, q1, q2, q3, q4, q5, q6, q7, q8, q10, q15, q20, q25, q40, q50, q80, q100, q200, q256, q8192, q16384, q65536]
      · have hg : gTk2 a = gWt (gTk1 a).1 1 := if_neg c3
        rw [hg]
        simp (disch := omega) only [b_X9_pass_64, b_X9_pass_85, c3, if_false, yl, cond_true, cond_false, Option.bind_some, ixn, nI_clamp, nI_add, pk_mul, pk_sub, pk_rem, pk_div, up2_s, up2_n, up1_s, up1_n, mdn, nar0, nar1, q0, q1, q2, q3, q4, q5, q6, q7, q8, q10, q15, q20, q25, q40, q50, q80, q100, q200, q256, q8192, q16384, q65536, w1]
    rw [← h64]
    have e3 : gTk0 a 3 0 = a 3 0 := by unfold gTk0; exact up2_n _ _ (by omega)
    by_cases c2 : a 3 0 = nI 0
    · have hg : gTk1 a = (gTk0 a, 0) := if_pos (e3.trans c2)
      rw [hg]
      simp (disch := omega) only [l_X9_pass_23, b_X9_pass_23, nI_eq, nI_leI, nI_ltI, c1, h0, c2, if_true, if_false, gTk0, yl, cond_true, cond_false, Option.bind_some, ixn, nI_clamp, nI_add, pk_mul, pk_sub, pk_rem, pk_div, up2_s, up2_n, up1_s, up1_n, mdn, nar0, nar1, q0, q1, q2, q3, q4, q5, q6, q7, q8, q10, q15, q20, q25, q40, q50, q80, q100, q200, q256, q8192, q16384, q65536]
    · have hg : gTk1 a = gWt (gTk0 a) 0 := if_neg (fun h => c2 (e3.symm.trans h))
      have w0' : f_X9_watches w (up2 a 0 1 (a 0 1 + nI 1)) (nI 0) = some ((gWt (gTk0 a) 0).1, nI (gWt (gTk0 a) 0).2) := w0
      rw [hg]
      simp (disch := omega) only [l_X9_pass_23, b_X9_pass_23, nI_eq, nI_leI, nI_ltI, c1, h0, c2, if_true, if_false, yl, cond_true, cond_false, Option.bind_some, ixn, nI_clamp, nI_add, pk_mul, pk_sub, pk_rem, pk_div, up2_s, up2_n, up1_s, up1_n, mdn, nar0, nar1, q0, q1, q2, q3, q4, q5, q6, q7, q8, q10, q15, q20, q25, q40, q50, q80, q100, q200, q256, q8192, q16384, q65536, w0']
def gPass (a : AS) (t : Nat) : AS × Nat := gTkL t (up2 a 0 0 (nI 0)) 0
theorem r_pass {w t : Nat} {a : AS} (ht1 : 1 ≤ t) (ht : t ≤ 50) (hw : 8192 < w) (h : ∀ i, i < t → ∀ c, tickOk (gTkL i (up2 a 0 0 (nI 0)) c).1) : f_X9_pass w a (nI t) = some ((gPass a t).1, nI (gPass a t).2) := by
  have hi : ¬ (nI t < nI 1 ∨ nI 50 < nI t) := fun hh => hh.elim (fun h => by have := (nI_ltI (by omega) (by decide)).mp h; omega) (fun h => by have := (nI_ltI (by decide) (by omega)).mp h; omega)
  have n10 : ¬ nI 1 = nI 0 := by decide
  have hl := r_passL ht hw t 0 w 0 (up2 a 0 0 (nI 0)) (by omega) (by omega) (up2_s _ _ _ _) h
  unfold gPass
  rw [← hl]
  simp (disch := omega) only [f_X9_pass, b_X9_pass_16, yl, cond_true, cond_false, Option.bind_some, ixn, nI_clamp, nI_add, pk_mul, pk_sub, pk_rem, pk_div, up2_s, up2_n, up1_s, up1_n, mdn, nar0, nar1, q0, q1, q2, q3, q4, q5, q6, q7, q8, q10, q15, q20, q25, q40, q50, q80, q100, q200, q256, q8192, q16384, q65536, r_in, hi, n10, if_true, if_false]
theorem r_passX {w : Nat} {a : AS} {x : Int32} (h : x < 1 ∨ 50 < x) (hw : 1 < w) : f_X9_pass w a x = some (up2 a 0 0 (nI 1), nI 0) := by
  obtain ⟨m, rfl⟩ : ∃ m, w = m + 1 := ⟨w - 1, by omega⟩
  have h' : x < nI 1 ∨ nI 50 < x := h
  have n10 : ¬ nI 1 = nI 0 := by decide
  by_cases c : x ≤ nI 0
  · simp (disch := omega) only [f_X9_pass, b_X9_pass_16, l_X9_pass_23, b_X9_pass_23, yl, cond_true, cond_false, Option.bind_some, ixn, nI_clamp, nI_add, pk_mul, pk_sub, pk_rem, pk_div, up2_s, up2_n, up1_s, up1_n, mdn, nar0, nar1, q0, q1, q2, q3, q4, q5, q6, q7, q8, q10, q15, q20, q25, q40, q50, q80, q100, q200, q256, q8192, q16384, q65536, r_in, h', c, n10, if_true, if_false]
  · simp (disch := omega) only [f_X9_pass, b_X9_pass_16, l_X9_pass_23, b_X9_pass_23, yl, cond_true, cond_false, Option.bind_some, ixn, nI_clamp, nI_add, pk_mul, pk_sub, pk_rem, pk_div, up2_s, up2_n, up1_s, up1_n, mdn, nar0, nar1, q0, q1, q2, q3, q4, q5, q6, q7, q8, q10, q15, q20, q25, q40, q50, q80, q100, q200, q256, q8192, q16384, q65536, r_in, h', c, n10, if_true, if_false]
/-- connect -/
def gCon1 (a : AS) (z : Bool) (s : Nat) : AS := up2 (up2 (up2 (up2 a 4 s (if z then nI 0 else a 4 s)) 5 s (if z then nI 1 else a 5 s)) 9 s (a 0 1)) 10 s (a 0 1)
def gCon0 (a : AS) (z : Bool) : AS := up2 (gCon1 (gCon1 (up2 a 0 0 (nI 0)) z 0) z 1) 0 2 (nI 1)
def gConnect (a : AS) (z : Bool) : AS := gSends (gSends (gCon0 a z) 0 (nI 0) (nI 0) (nI 0) (nI 0) (nI 0)) 1 (nI 0) (nI 0) (nI 0) (nI 0) (nI 0)
theorem r_con1 {w m s : Nat} {a : AS} {z : Bool} (hs : s < 2) : l_X9_connect_26 w (m + 1) a (if z then nI 1 else nI 0) (nI s) = l_X9_connect_26 w m (gCon1 a z s) (if z then nI 1 else nI 0) (nI (s + 1)) := by
  have c : ¬ 2 ≤ s := by omega
  have n10 : ¬ nI 1 = nI 0 := by decide
  cases z
  · simp (disch := omega) only [l_X9_connect_26, b_X9_connect_26, b_X9_connect_50, b_X9_connect_70, nI_eq, nI_leI, nI_ltI, c, gCon1, if_true, if_false, yl, cond_true, cond_false, Option.bind_some, ixn, nI_clamp, nI_add, pk_mul, pk_sub, pk_rem, pk_div, up2_s, up2_n, up1_s, up1_n, mdn, nar0, nar1, q0, q1, q2, q3, q4, q5, q6, q7, q8, q10, q15, q20, q25, q40, q50, q80, q100, q200, q256, q8192, q16384, q65536, Bool.false_eq_true]
  · simp (disch := omega) only [l_X9_connect_26, b_X9_connect_26, b_X9_connect_50, b_X9_connect_70, nI_eq, nI_leI, nI_ltI, c, n10, gCon1, if_true, if_false, yl, cond_true, cond_false, Option.bind_some, ixn, nI_clamp, nI_add, pk_mul, pk_sub, pk_rem, pk_div, up2_s, up2_n, up1_s, up1_n, mdn, nar0, nar1, q0, q1, q2, q3, q4, q5, q6, q7, q8, q10, q15, q20, q25, q40, q50, q80, q100, q200, q256, q8192, q16384, q65536]
theorem r_connect {w n0 n1 k0 k1 : Nat} {a : AS} {z : Bool} (hup : a 0 2 = nI 0) (h0 : rgo (gCon0 a z) 0 n0 k0) (hn0 : n0 + 1 ≤ 8191) (hk0 : k0 ≤ 131070) (h1 : rgo (gSends (gCon0 a z) 0 (nI 0) (nI 0) (nI 0) (nI 0) (nI 0)) 1 n1 k1) (hn1 : n1 + 1 ≤ 8191) (hk1 : k1 ≤ 131070) (hw : 10 < w) : f_X9_connect w a (if z then nI 1 else nI 0) = some (gConnect a z, 0) := by
  obtain ⟨m, rfl⟩ : ∃ m, w = m + 3 := ⟨w - 3, by omega⟩
  have r1 := r_con1 (w := m + 3) (m := m + 2) (a := up2 a 0 0 (nI 0)) (z := z) (s := 0) (by decide)
  have r2 := r_con1 (w := m + 3) (m := m + 1) (a := gCon1 (up2 a 0 0 (nI 0)) z 0) (z := z) (s := 1) (by decide)
  obtain ⟨e4, ⟨h, e19, hh⟩, e20⟩ := h0
  obtain ⟨f4, ⟨h', f19, hh'⟩, f20⟩ := h1
  have s0 := r_sends (w := m + 3) (kd := nI 0) (o1 := nI 0) (o2 := nI 0) (o3 := nI 0) (o4 := nI 0) (s := 0) (by decide) e4 hn0 e19 hh e20 (by omega)
  have s1 := r_sends (w := m + 3) (kd := nI 0) (o1 := nI 0) (o2 := nI 0) (o3 := nI 0) (o4 := nI 0) (s := 1) (by decide) f4 hn1 f19 hh' f20 (by omega)
  have r3 : l_X9_connect_26 (m + 3) (m + 1) (gCon1 (gCon1 (up2 a 0 0 (nI 0)) z 0) z 1) (if z then nI 1 else nI 0) (nI 2) = some (gConnect a z, 0) := by
    unfold gConnect
    unfold gCon0 at s0 s1 ⊢
    simp (disch := omega) only [l_X9_connect_26, b_X9_connect_26, nI_eq, nI_leI, nI_ltI, Nat.le_refl, if_true, yl, cond_true, cond_false, Option.bind_some, ixn, nI_clamp, nI_add, pk_mul, pk_sub, pk_rem, pk_div, up2_s, up2_n, up1_s, up1_n, mdn, nar0, nar1, q0, q1, q2, q3, q4, q5, q6, q7, q8, q10, q15, q20, q25, q40, q50, q80, q100, q200, q256, q8192, q16384, q65536, s0, s1]
  unfold f_X9_connect b_X9_connect_13 yl
  dsimp only
  rw [q0, if_pos hup, up2_s, if_pos (by decide)]
  exact r1.trans (r2.trans r3)
theorem r_connectX {w : Nat} {a : AS} {x : Int32} (hup : ¬ a 0 2 = nI 0) : f_X9_connect w a x = some (up2 a 0 0 (nI 1), 0) := by
  unfold f_X9_connect b_X9_connect_13 yl
  dsimp only
  rw [q0, if_neg hup, up2_s, if_neg (by decide)]
  rfl
theorem r_cut {w : Nat} {a : AS} (hup : ¬ a 0 2 = nI 0) (hw : 8192 < w) : f_X9_cut w a = some (gDown (up2 a 0 0 (nI 0)), a 20 0 + a 20 1) := by
  unfold f_X9_cut b_X9_cut_13 yl
  dsimp only
  rw [q0, if_neg hup, up2_s, if_pos (by decide), r_down hw]
  simp (disch := omega) only [Option.bind_some, up2_n]
theorem r_cutX {w : Nat} {a : AS} (hup : a 0 2 = nI 0) : f_X9_cut w a = some (up2 a 0 0 (nI 1), 0) := by
  unfold f_X9_cut b_X9_cut_13 yl
  dsimp only
  rw [q0, if_pos hup, q1, up2_s, if_neg (by decide)]
/-- garble -/
def gGarble (a : AS) (s k : Nat) : AS := up2 (up2 a 0 0 (nI 0)) 21 (pl a s k) (nI (tn (a 21 (pl a s k)) / 2 * 2 + 1))
theorem r_garble {w : Nat} {a : AS} {s k h c t : Nat} (hs : s < 2) (e19 : a 19 s = nI h) (hh : h < 65536) (e20 : a 20 s = nI c) (hc : c ≤ 131070) (hk : k < c) (e21 : a 21 (pl a s k) = nI t) (ht : t < 2 ^ 30) : f_X9_garble w a (nI s) (nI k) = some (gGarble a s k, nI (t / 2 / 8192)) := by
  have h1 : ¬ (nI s < nI 0 ∨ nI 1 < nI s) := fun hh => hh.elim (fun h => by have := (nI_ltI (by omega) (by decide)).mp h; omega) (fun h => by have := (nI_ltI (by decide) (by omega)).mp h; omega)
  have h2 : ¬ (nI k < nI 0 ∨ nI (c - 1) < nI k) := fun hh => hh.elim (fun h => by have := (nI_ltI (by omega) (by decide)).mp h; omega) (fun h => by have := (nI_ltI (by omega) (by omega)).mp h; omega)
  have n10 : ¬ nI 1 = nI 0 := by decide
  have hb : boB (nI 1) = true := by decide
  have e1 : pl (up2 a 0 0 (nI 0)) s k = pl a s k := by unfold pl; rw [up2_n _ _ (by omega)]
  have epl := r_placeOf (w := w) (a := up2 a 0 0 (nI 0)) (t := s) (k := k) hs ((up2_n _ _ (by omega)).trans e19) hh (by omega)
  rw [e1] at epl
  have hpl : pl a s k < 131072 := by unfold pl; omega
  have hle : nI 0 ≤ nI 0 := by decide
  have e2 : (t / 2 * 2 + 1) / 2 / 8192 = t / 2 / 8192 := by omega
  unfold gGarble
  generalize pl a s k = p at *
  simp (disch := omega) only [f_X9_garble, f_X9_isSide, b_X9_garble_29, yl, cond_true, cond_false, Option.bind_some, ixn, nI_clamp, nI_add, pk_mul, pk_sub, pk_rem, pk_div, up2_s, up2_n, up1_s, up1_n, mdn, nar0, nar1, q0, q1, q2, q3, q4, q5, q6, q7, q8, q10, q15, q20, q25, q40, q50, q80, q100, q200, q256, q8192, q16384, q65536, r_in, h1, h2, n10, hb, e20, if_true, if_false, hle, epl, e21, e2]
theorem r_garbleX {w : Nat} {a : AS} {x y : Int32} (hx : (x < 0 ∨ 1 < x) ∨ ∃ s c : Nat, s < 2 ∧ x = nI s ∧ a 20 s = nI c ∧ c ≤ 131070 ∧ (y < 0 ∨ nI c - 1 < y)) : f_X9_garble w a x y = some (up2 a 0 0 (nI 1), nI 0) := by
  have n10 : ¬ nI 1 = nI 0 := by decide
  have hb : boB (nI 1) = true := by decide
  have hb0 : boB (nI 0) = true := by decide
  have hle : ¬ nI 1 ≤ nI 0 := by decide
  rcases hx with hx | ⟨s, c, hs, rfl, e20, hc, hy⟩
  · have hx' : x < nI 0 ∨ nI 1 < x := hx
    simp (disch := omega) only [f_X9_garble, f_X9_isSide, b_X9_garble_28, b_X9_garble_29, yl, q0, q1, r_in, hx', hb0, cond_true, Option.bind_some, if_true, if_false, up2_s, hle]
  · have h1 : ¬ (nI s < nI 0 ∨ nI 1 < nI s) := fun hh => hh.elim (fun h => by have := (nI_ltI (by omega) (by decide)).mp h; omega) (fun h => by have := (nI_ltI (by decide) (by omega)).mp h; omega)
    have hy' : y < nI 0 ∨ nI c - nI 1 < y := hy
    simp (disch := omega) only [f_X9_garble, f_X9_isSide, b_X9_garble_28, b_X9_garble_29, yl, q0, q1, r_in, h1, hy', hb, n10, ixn, nI_clamp, e20, cond_true, Option.bind_some, if_true, if_false, up2_s, hle]
