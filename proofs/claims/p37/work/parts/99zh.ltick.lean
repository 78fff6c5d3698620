/-! pass, all ticks; garble on the law's side. -/
variable {Hh Hg : Nat → Nat}
def UP (a : AS) : Prop := ∀ t, t < 2 → a 3 t ≠ nI 0 → a 0 2 = nI 1
theorem UP_snd {a : AS} {s : Nat} {kd o1 o2 o3 o4 : Int32} (h : UP a) : UP (gSends a s kd o1 o2 o3 o4) := fun t ht => by
  rw [gSends_k _ _ _ _ _ _ _ 3 _ (by decide) (by decide) (by decide) (by decide) (by decide), gSends_k _ _ _ _ _ _ _ 0 2 (by decide) (by decide) (by decide) (by decide) (by decide)]
  exact h t ht
theorem UP_dn (a : AS) : UP (gDown a) := fun t ht c => absurd (gDown_z a 3 t ht (by omega)) c
theorem UP_sd {a : AS} {s : Nat} (h : UP a) : UP (gSd a s).1 := by
  unfold gSd
  split
  · exact h
  · have h1 : UP (gWt1 (a, 0) s).1 := by
      unfold gWt1
      split
      · exact h
      · exact UP_snd h
    unfold gWt
    generalize gWt1 (a, 0) s = x at h1 ⊢
    have h2 : UP (gWt2 x s).1 := by
      unfold gWt2
      split
      · exact UP_snd h1
      · exact h1
    generalize gWt2 x s = y at h2 ⊢
    unfold gWt3
    split
    · exact h2
    · exact UP_dn _
theorem UP_tk0 {a : AS} (h : UP a) : UP (gTk0 a) := fun t ht => by
  unfold gTk0
  rw [up2_n _ _ (by omega), up2_n _ _ (by omega)]
  exact h t ht
theorem lr_tk0 {b a : AS} (h : LR Hh b a) (hT : tn (a 0 1) + 1 ≤ 90000) : LR Hh (up2 b 1 0 (b 1 0 + 1)) (gTk0 a) := by
  obtain ⟨⟨⟨t, et, ht⟩, D, eD, hD⟩, l1, l2, l3, l4, l5, l6, l7, l8⟩ := h
  rw [et, tnI (by omega)] at hT
  unfold gTk0
  refine lr_m ⟨⟨⟨t, et, ht⟩, D, eD, hD⟩, l1, l2, l3, l4, l5, l6, l7, l8⟩ (fun k k1 k2 => up2_k _ _ (by omega)) (fun k hk => up2_k _ _ (by omega)) ⟨⟨t + 1, ?_, by omega⟩, D, eD, hD⟩ ?_ l5 l6 l7 l8
  · rw [up2_s, et]; exact nI_add t 1
  · have := L1_set (v := a 0 1 + 1) l1 (Or.inr (Or.inr (Or.inr (Or.inr ⟨rfl, rfl⟩))))
    rw [show b 1 0 = a 0 1 from l1.1]
    exact this
theorem lk_ticks {w t : Nat} {C : Nat → Nat} {μ : MP} {ν : NC} (hw : 100 < w) (ht : t ≤ 26) (hC : ∀ s, s < 2 → C s ≤ 19) : ∀ (d i m c : Nat) (b a : AS), i + d = t → d < m → LR Hh b a → a 0 0 = nI 0 → UP a → (∀ s, s < 2 → TS 15 i C a s) → (∀ s, s < 2 → tn (a 20 s) ≤ 90 + 4 * i) → tn (a 0 1) + d ≤ 90000 → ∃ b', l_L_lines_465 w m μ ν b (nI t) (nI c) (nI i) = (f_L_pass w μ ν (0 : Int32)).bind (fun v4 => b_L_lines_629 w v4.1.1 v4.1.2 b' (nI t) (nI (gTkL d a c).2) v4.2) ∧ LR Hh b' (gTkL d a c).1 ∧ (gTkL d a c).2 ≤ c + 4 * d := by
  intro d
  induction d with
  | zero =>
    intro i m c b a h1 h2 h h0 hU hT hq hb
    obtain ⟨m, rfl⟩ : ∃ m', m = m' + 1 := ⟨m - 1, by omega⟩
    refine ⟨b, ?_, h, Nat.le_refl _⟩
    show b_L_lines_465 _ w μ ν b _ _ _ = _
    unfold b_L_lines_465
    rw [if_pos ((nI_leI (by omega) (by omega)).mpr (by omega))]
    rfl
  | succ d ih =>
    intro i m c b a h1 h2 h h0 hU hT hq hb
    obtain ⟨m, rfl⟩ : ∃ m', m = m' + 1 := ⟨m - 1, by omega⟩
    obtain ⟨w', rfl⟩ : ∃ w', w = w' + 3 := ⟨w - 3, by omega⟩
    have L0' := lr_tk0 h (by omega)
    have r20 : ∀ s, gTk0 a 20 s = a 20 s := fun s => by unfold gTk0; rw [up2_n _ _ (by omega)]
    have h00 : gTk0 a 0 0 = nI 0 := by unfold gTk0; rw [up2_n _ _ (by omega)]; exact h0
    have T0 := TS_0 (hT 0 (by decide)) (by omega)
    have T1 := TS_0 (hT 1 (by decide)) (by omega)
    have U0 := UP_tk0 hU
    have e01 : tn (gTk0 a 0 1) ≤ tn (a 0 1) + 1 := by
      obtain ⟨T, L, H, β, k, g1, g2, -⟩ := hT 0 (by decide)
      unfold gTk0
      rw [up2_s, g1, show nI T + (1 : Int32) = nI (T + 1) from nI_add T 1, tnI (by omega), tnI (by omega)]
      omega
    obtain ⟨b1, f1, f2, f3, f4, f5, f6⟩ := lk_sd (k465 := l_L_lines_465 (w' + 3) m) (k483 := l_L_lines_483 (l_L_lines_465 (w' + 3) m) (w' + 3) (w' + 2)) (μ := μ) (ν := ν) (x19 := t) (x20 := c) (x21 := i) hw (show 0 < 2 by decide) L0' h00 T0 (by omega) (hC 0 (by decide)) (U0 0 (by decide)) (by rw [r20]; have := hq 1 (by decide); show tn (a 20 1) + 2 ≤ 240; omega)
    have U1 := UP_sd (s := 0) U0
    have e1 : gTk1 a = gSd (gTk0 a) 0 := rfl
    rw [← e1] at f1 f2 f3 f4 f5 f6 U1
    have T1' : TS 16 (i + 1) C (gTk1 a).1 1 := TS_c T1 f4.1 (f4.2.2.1 9 (by omega)) (f4.2.2.1 10 (by omega)) (f4.2.2.1 4 (by omega))
    obtain ⟨b2, g1, g2, g3, g4, g5, g6⟩ := lk_sd (k465 := l_L_lines_465 (w' + 3) m) (k483 := l_L_lines_483 (l_L_lines_465 (w' + 3) m) (w' + 3) (w' + 1)) (μ := μ) (ν := ν) (x19 := t) (x20 := c + (gTk1 a).2) (x21 := i) hw (show 1 < 2 by decide) f2 (f4.2.1.trans h00) T1' (by omega) (hC 1 (by decide)) (U1 1 (by decide)) (by have := f5 0 (by decide); rw [r20] at this; have := hq 0 (by decide); show tn ((gTk1 a).1 20 0) + 2 ≤ 240; omega)
    have U2 := UP_sd (s := 1) U1
    have e2 : gTk2 a = gSd (gTk1 a).1 1 := rfl
    rw [← e2] at g1 g2 g3 g4 g5 g6 U2
    have T0' : TS 15 (i + 1) C (gTk2 a).1 0 := TS_c f3 g4.1 (g4.2.2.1 9 (by omega)) (g4.2.2.1 10 (by omega)) (g4.2.2.1 4 (by omega))
    obtain ⟨b', i1, i2, i3⟩ := ih (i + 1) m (c + (gTk1 a).2 + (gTk2 a).2) b2 (gTk2 a).1 (by omega) (by omega) g2 (g4.2.1.trans (f4.2.1.trans h00)) U2 (fun s hs => by
      rcases (show s = 0 ∨ s = 1 by omega) with rfl | rfl
      · exact T0'
      · exact g3) (fun s hs => by
      have z1 := f5 s hs
      have z2 := g5 s hs
      rw [r20] at z1
      have z3 := hq s hs
      omega) (by rw [g4.1, f4.1]; omega)
    refine ⟨b', ?_, i2, by show (gTkL d (gTk2 a).1 (c + (gTk1 a).2 + (gTk2 a).2)).2 ≤ _; omega⟩
    show _ = (f_L_pass (w' + 3) μ ν (0 : Int32)).bind (fun v4 => b_L_lines_629 (w' + 3) v4.1.1 v4.1.2 b' (nI t) (nI (gTkL d (gTk2 a).1 (c + (gTk1 a).2 + (gTk2 a).2)).2) v4.2)
    rw [← i1]
    show b_L_lines_465 (l_L_lines_465 (w' + 3) m) (w' + 3) μ ν b _ _ _ = _
    unfold b_L_lines_465
    rw [if_neg (fun e => by have := (nI_leI (by omega) (by omega)).mp e; omega), show ixB (0 : Int32) 22 = true from rfl, show (0 : Int32).toNatClampNeg = 0 from rfl]
    simp only [cond_true, yl]
    show b_L_lines_483 (l_L_lines_465 (w' + 3) m) (l_L_lines_483 (l_L_lines_465 (w' + 3) m) (w' + 3) (w' + 2)) (w' + 3) μ ν (up2 b 1 0 (b 1 0 + 1)) (nI t) (nI c) (nI i) (nI 0) = _
    rw [f1]
    show b_L_lines_483 (l_L_lines_465 (w' + 3) m) (l_L_lines_483 (l_L_lines_465 (w' + 3) m) (w' + 3) (w' + 1)) (w' + 3) μ ν b1 (nI t) (nI (c + (gTk1 a).2)) (nI i) (nI 1) = _
    rw [g1]
    show b_L_lines_483 (l_L_lines_465 (w' + 3) m) (l_L_lines_483 (l_L_lines_465 (w' + 3) m) (w' + 3) w') (w' + 3) μ ν b2 (nI t) (nI (c + (gTk1 a).2 + (gTk2 a).2)) (nI i) (nI 2) = _
    unfold b_L_lines_483
    rw [if_pos (show (2 : Int32) ≤ nI 2 from by decide), show nI i + (1 : Int32) = nI (i + 1) from nI_add i 1]
    rfl
theorem lr_gar {b b' a : AS} {q : Nat → Nat} {s c H p x f g : Nat} (hs : s < 2) (h : LR Hh b a) (h1 : wyL (b' (2 + s)) (up1 q p (x + 64 * f + 8192))) (e19 : a 19 s = nI H) (hH : H < 65536) (e20 : a 20 s = nI c) (hc : c ≤ 240) (hp : p < c) (hk : ∀ k, k < c → ∃ x f g : Nat, x < 64 ∧ f ≤ 64 ∧ g < 2 ∧ q k = x + 64 * f + 8192 * g ∧ a 21 (65536 * s + (H + k) % 65536) = nI (2 * (8192 * x + f) + g)) (hx : x < 64) (hf : f ≤ 64) (hg : g < 2) (e21 : a 21 (65536 * s + (H + p) % 65536) = nI (2 * (8192 * x + f) + g)) (hb : ∀ j, j ≠ 2 + s → b' j = b j) : LR Hh b' (gGarble a s p) := by
  obtain ⟨l0, l1, l2, l3, l4, l5, l6, l7, l8⟩ := h
  have epl : pl a s p = 65536 * s + (H + p) % 65536 := by unfold pl; rw [e19, tnI (by omega)]
  have eP : gGarble a s p = up2 (up2 a 0 0 (nI 0)) 21 (65536 * s + (H + p) % 65536) (nI (2 * (8192 * x + f) + 1)) := by
    unfold gGarble
    rw [epl, e21, tnI (by omega)]
    congr 2
    omega
  rw [eP]
  have er : ∀ j, j ≠ 2 + s → b' j = b j := hb
  unfold LR
  rw [er 1 (by omega), er 8 (by omega), er 9 (by omega), er 10 (by omega), er 11 (by omega), er 12 (by omega), er 13 (by omega), er 14 (by omega)]
  refine ⟨l0, l1, fun t ht => ?_, fun t ht => ?_, fun t ht => ?_, l5, l6, l7, l8⟩
  · show L2 (b' (2 + t)) (a 19 t) (a 20 t) (up1 (a 21) (65536 * s + (H + p) % 65536) (nI (2 * (8192 * x + f) + 1))) t
    by_cases e : t = s
    · subst e
      refine ⟨up1 q p (x + 64 * f + 8192), c, H, h1, e19, hH, e20, hc, fun k hk' => ?_⟩
      by_cases ek : k = p
      · subst ek
        exact ⟨x, f, 1, hx, hf, by decide, up1_s _ _ _, up1_s _ _ _⟩
      · obtain ⟨x', f', g', y1, y2, y3, y4, y5⟩ := hk k hk'
        exact ⟨x', f', g', y1, y2, y3, (up1_n _ _ ek).trans y4, (up1_n _ _ (by omega)).trans y5⟩
    · rw [er _ (by omega)]
      obtain ⟨q', c', H', y1, y2, y3, y4, y5, y6⟩ := l2 t ht
      refine ⟨q', c', H', y1, y2, y3, y4, y5, fun k hk' => ?_⟩
      obtain ⟨x', f', g', z1, z2, z3, z4, z5⟩ := y6 k hk'
      exact ⟨x', f', g', z1, z2, z3, z4, (up1_n _ _ (by omega)).trans z5⟩
  · rw [er _ (by omega)]; exact l3 t ht
  · rw [er _ (by omega)]; exact l4 t ht
theorem lr_00 {b a : AS} {v : Int32} (h : LR Hh b a) : LR Hh b (up2 a 0 0 v) := by
  obtain ⟨l0, l1, l2, l3, l4, l5, l6, l7, l8⟩ := h
  exact ⟨l0, l1, l2, l3, l4, l5, l6, l7, l8⟩
