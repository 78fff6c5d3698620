/-! pass: ticks on the law's side. -/
variable {Hh Hg : Nat → Nat}
def gSd (a : AS) (s : Nat) : AS × Nat := if a 3 s = nI 0 then (a, 0) else gWt a s
/-- a side in a tick: T now, L last sent, H last heard; β beats and k tests of this call so far; e: 15 behind its turn, 16 ahead of it -/
def TS (e i : Nat) (C : Nat → Nat) (a : AS) (s : Nat) : Prop := ∃ T L H β k : Nat, a 0 1 = nI T ∧ T ≤ 90000 ∧ a 9 s = nI L ∧ L ≤ T ∧ a 10 s = nI H ∧ H ≤ T ∧ k ≤ 1 ∧ (k = 1 → H + e ≤ T) ∧ tn (a 4 s) ≤ C s + β + k ∧ 10 * β + min 10 (T - L) ≤ i + 10
theorem TS_w {i : Nat} {C : Nat → Nat} {a : AS} {s : Nat} (h : TS 16 i C a s) : TS 15 i C a s := by
  obtain ⟨T, L, H, β, k, h1, h2, h3, h4, h5, h6, h7, h8, h9, h10⟩ := h
  exact ⟨T, L, H, β, k, h1, h2, h3, h4, h5, h6, h7, fun hk => by have := h8 hk; omega, h9, h10⟩
theorem TS_c {e i : Nat} {C : Nat → Nat} {a b : AS} {s : Nat} (h : TS e i C a s) (h01 : b 0 1 = a 0 1) (h9 : b 9 s = a 9 s) (h10 : b 10 s = a 10 s) (h4 : b 4 s = a 4 s) : TS e i C b s := by
  unfold TS
  rw [h01, h9, h10, h4]
  exact h
theorem TS_0 {i : Nat} {C : Nat → Nat} {a : AS} {s : Nat} (h : TS 15 i C a s) (hT : tn (a 0 1) + 1 ≤ 90000) : TS 16 (i + 1) C (gTk0 a) s := by
  obtain ⟨T, L, H, β, k, h1, h2, h3, h4, h5, h6, h7, h8, h9, h10⟩ := h
  rw [h1, tnI (by omega)] at hT
  refine ⟨T + 1, L, H, β, k, ?_, by omega, h3, by omega, h5, by omega, h7, fun hk => by have := h8 hk; omega, h9, by omega⟩
  unfold gTk0
  rw [up2_s, h1]
  exact nI_add T 1
theorem TS_N {e i : Nat} {C : Nat → Nat} {a : AS} {s : Nat} (h : TS e i C a s) (hi : i ≤ 26) (hC : C s ≤ 19) : tn (a 4 s) ≤ 23 := by
  obtain ⟨T, L, H, β, k, h1, h2, h3, h4, h5, h6, h7, h8, h9, h10⟩ := h
  omega
theorem TS_N2 {e i : Nat} {C : Nat → Nat} {a : AS} {s : Nat} (h : TS e i C a s) (hi : i ≤ 26) (hC : C s ≤ 19) : tn (a 4 s) + 1 ≤ 63 := by
  have := TS_N h hi hC; omega
/-- what a side's turn leaves to the other -/
def frS (a b : AS) (s : Nat) : Prop := b 0 1 = a 0 1 ∧ b 0 0 = a 0 0 ∧ (∀ k, k = 4 ∨ k = 9 ∨ k = 10 → b k (1 - s) = a k (1 - s)) ∧ (b 0 2 = a 0 2 ∨ b 0 2 = nI 0)
theorem frS_refl (a : AS) (s : Nat) : frS a a s := ⟨rfl, rfl, fun _ _ => rfl, Or.inl rfl⟩
theorem frS_trans {a b c : AS} {s : Nat} (h : frS a b s) (h2 : frS b c s) : frS a c s := by
  obtain ⟨x1, x2, x3, x4⟩ := h
  obtain ⟨y1, y2, y3, y4⟩ := h2
  refine ⟨y1.trans x1, y2.trans x2, fun k hk => (y3 k hk).trans (x3 k hk), ?_⟩
  rcases y4 with y4 | y4
  · rw [y4]; exact x4
  · exact Or.inr y4
theorem snd_9' (a : AS) (s : Nat) (kd o1 o2 o3 o4 : Int32) {t : Nat} (h : t ≠ s) : gSends a s kd o1 o2 o3 o4 9 t = a 9 t := by
  unfold gSends
  split
  · exact gKeep_k _ _ _ _ _ _ _ _ _ (by decide) (by decide)
  · unfold gGoes
    rw [up2_n _ _ (by omega), up2_n _ _ (by omega), up2_n _ _ (by omega)]
    exact gKeep_k _ _ _ _ _ _ _ _ _ (by decide) (by decide)
theorem frS_snd (a : AS) {s : Nat} (hs : s < 2) (kd o1 o2 o3 o4 : Int32) : frS a (gSends a s kd o1 o2 o3 o4) s := by
  refine ⟨gSends_k _ _ _ _ _ _ _ _ _ (by decide) (by decide) (by decide) (by decide) (by decide), gSends_00 _ _ _ _ _ _ _, fun k hk => ?_, Or.inl (gSends_k _ _ _ _ _ _ _ _ _ (by decide) (by decide) (by decide) (by decide) (by decide))⟩
  rcases hk with rfl | rfl | rfl
  · exact gS_4 _ _ _ _ _ _ _ (by omega)
  · exact snd_9' _ _ _ _ _ _ _ (by omega)
  · exact gSends_k _ _ _ _ _ _ _ _ _ (by decide) (by decide) (by decide) (by decide) (by decide)
theorem TS_snd {e i : Nat} {C : Nat → Nat} {a : AS} {s kd : Nat} (hup : a 0 2 = nI 1) (T L H β k β' k' : Nat) (h1 : a 0 1 = nI T) (h2 : T ≤ 90000) (h5 : a 10 s = nI H) (h6 : H ≤ T) (h7 : k' ≤ 1) (h8 : k' = 1 → H + e ≤ T) (h9 : tn (a 4 s) + 1 ≤ C s + β' + k') (h10 : 10 * β' ≤ i + 10) : TS e i C (gSends a s (nI kd) (nI 0) (nI 0) (nI 0) (nI 0)) s := by
  have e9 : gSends a s (nI kd) (nI 0) (nI 0) (nI 0) (nI 0) 9 s = nI T := by
    unfold gSends
    rw [if_neg (by rw [hup]; decide)]
    unfold gGoes
    rw [up2_s, gKeep_k _ _ _ _ _ _ _ _ _ (by decide) (by decide), h1]
  have e01 : gSends a s (nI kd) (nI 0) (nI 0) (nI 0) (nI 0) 0 1 = nI T := (gSends_k _ _ _ _ _ _ _ _ _ (by decide) (by decide) (by decide) (by decide) (by decide)).trans h1
  have e10 : gSends a s (nI kd) (nI 0) (nI 0) (nI 0) (nI 0) 10 s = nI H := (gSends_k _ _ _ _ _ _ _ _ _ (by decide) (by decide) (by decide) (by decide) (by decide)).trans h5
  refine ⟨T, T, H, β', k', e01, h2, e9, Nat.le_refl _, e10, h6, h7, h8, ?_, by omega⟩
  have := (snd_bd a s (nI kd) (nI 0) (nI 0) (nI 0) (nI 0)).1
  omega
theorem le_lt {x : Int32} {n : Nat} (hn : n < 2 ^ 30) : x ≤ nI n ↔ x < nI (n + 1) := by
  rw [Int32.le_iff_toInt_le, Int32.lt_iff_toInt_lt, nI_toInt (by omega), nI_toInt (by omega)]
  omega
theorem gDn_fr (a : AS) (s : Nat) : frS a (gDown a) s ∧ (gDown a) 4 s = a 4 s ∧ (gDown a) 9 s = a 9 s ∧ (gDown a) 10 s = a 10 s ∧ ∀ t, t < 2 → gDown a 20 t = nI 0 := by
  have r : ∀ k, k ≠ 18 → k ≠ 6 → k ≠ 7 → k ≠ 3 → k ≠ 19 → k ≠ 20 → k ≠ 0 → gDown a k = a k := fun k k1 k2 k3 k4 k5 k6 k7 => gDown_r a k k1 k2 k3 k4 k5 k6 k7
  have r0 : ∀ i, gDown a 0 i = if i = 2 then nI 0 else a 0 i := fun i => gDown_00 a i
  refine ⟨⟨by rw [r0, if_neg (by decide)], by rw [r0, if_neg (by decide)], fun k hk => by rw [r k (by omega) (by omega) (by omega) (by omega) (by omega) (by omega) (by omega)], Or.inr (by rw [r0, if_pos rfl])⟩, by rw [r 4 (by decide) (by decide) (by decide) (by decide) (by decide) (by decide) (by decide)], by rw [r 9 (by decide) (by decide) (by decide) (by decide) (by decide) (by decide) (by decide)], by rw [r 10 (by decide) (by decide) (by decide) (by decide) (by decide) (by decide) (by decide)], fun t ht => gDown_z a 20 t ht (by omega)⟩
theorem lk_sd {w s i x19 x20 x21 : Nat} {C : Nat → Nat} {k465 : MP → NC → AS → Int32 → Int32 → Int32 → Option (((MP × NC) × AS) × Int32)} {k483 : MP → NC → AS → Int32 → Int32 → Int32 → Int32 → Option (((MP × NC) × AS) × Int32)} {μ : MP} {ν : NC} {b a : AS} (hw : 100 < w) (hs : s < 2) (h : LR Hh b a) (h0 : a 0 0 = nI 0) (hT : TS 16 i C a s) (hi : i ≤ 26) (hC : C s ≤ 19) (hon : a 3 s ≠ nI 0 → a 0 2 = nI 1) (hq : tn (a 20 (1 - s)) + 2 ≤ 240) : ∃ b', b_L_lines_483 k465 k483 w μ ν b (nI x19) (nI x20) (nI x21) (nI s) = k483 μ ν b' (nI x19) (nI (x20 + (gSd a s).2)) (nI x21) (nI (s + 1)) ∧ LR Hh b' (gSd a s).1 ∧ TS 15 i C (gSd a s).1 s ∧ frS a (gSd a s).1 s ∧ (∀ t, t < 2 → tn ((gSd a s).1 20 t) ≤ tn (a 20 t) + 2) ∧ (gSd a s).2 ≤ 2 := by
  obtain ⟨r0, r2, -, -, -, -, r12, r14, -⟩ := LR_1 h hs
  have n612 : ∀ (b1 : AS) (z : Nat), b_L_lines_612 k465 k483 w μ ν b1 (nI x19) (nI z) (nI x21) (nI s) = k483 μ ν b1 (nI x19) (nI z) (nI x21) (nI (s + 1)) := fun b1 z => by
    unfold b_L_lines_612
    rw [show nI s + (1 : Int32) = nI (s + 1) from nI_add s 1]
    rfl
  have e2 : (2 : Int32) + nI s = nI (2 + s) := nI_add 2 s
  have e12 : (12 : Int32) + nI s = nI (12 + s) := nI_add 12 s
  have e14 : (14 : Int32) + nI s = nI (14 + s) := nI_add 14 s
  have i2 : ixB (nI (2 + s)) 22 = true := ixn (by omega) (by decide)
  have i12 : ixB (nI (12 + s)) 22 = true := ixn (by omega) (by decide)
  have i14 : ixB (nI (14 + s)) 22 = true := ixn (by omega) (by decide)
  have c2 : (nI (2 + s)).toNatClampNeg = 2 + s := nI_clamp (by omega)
  have c12 : (nI (12 + s)).toNatClampNeg = 12 + s := nI_clamp (by omega)
  have c14 : (nI (14 + s)).toNatClampNeg = 14 + s := nI_clamp (by omega)
  have i0 : ixB (0 : Int32) 22 = true := rfl
  have c0 : (0 : Int32).toNatClampNeg = 0 := rfl
  have n2 : ¬ (2 : Int32) ≤ nI s := fun e => by have := (nI_leI (a := 2) (b := s) (by decide) (by omega)).mp e; omega
  unfold b_L_lines_483 gSd
  rw [if_neg n2, e2, i2, c2, r2]
  simp only [cond_true]
  by_cases hon0 : a 3 s = nI 0
  · rw [if_pos (show a 3 s = (0 : Int32) from hon0), if_pos hon0, n612]
    exact ⟨b, rfl, h, TS_w hT, frS_refl a s, fun t ht => Nat.le_add_right _ _, by omega⟩
  have hup := hon hon0
  rw [if_neg (show ¬ a 3 s = (0 : Int32) from hon0), if_neg hon0, i0, e12, i12, c0, c12, r0, r12]
  simp only [cond_true]
  obtain ⟨T, L, H, β, k, h1, h2, h3, h4, h5, h6, h7, h8, h9, h10⟩ := id hT
  have dL : a 0 1 - a 9 s = nI (T - L) := by rw [h1, h3, pk_sub h4]
  have dH : a 0 1 - a 10 s = nI (T - H) := by rw [h1, h5, pk_sub h6]
  -- the beat
  have S1 : ∃ b1, (if a 0 1 - a 9 s ≤ (9 : Int32) then (b_L_lines_543 k465 k483 w μ ν b (nI x19) (nI x20) (nI x21) (nI s)) else ((f_L_send w b (nI s) (1 : Int32) (0 : Int32) (0 : Int32) (0 : Int32) (0 : Int32)).bind (fun v21 => yl (nI x20 + (1 : Int32)) (fun t22 => b_L_lines_543 k465 k483 w μ ν v21.1 (nI x19) t22 (nI x21) (nI s))))) = b_L_lines_543 k465 k483 w μ ν b1 (nI x19) (nI (x20 + (gWt1 (a, 0) s).2)) (nI x21) (nI s) ∧ LR Hh b1 (gWt1 (a, 0) s).1 ∧ TS 16 i C (gWt1 (a, 0) s).1 s ∧ frS a (gWt1 (a, 0) s).1 s ∧ (gWt1 (a, 0) s).1 0 2 = a 0 2 ∧ (gWt1 (a, 0) s).1 10 s = a 10 s ∧ (∀ t, t < 2 → tn ((gWt1 (a, 0) s).1 20 t) ≤ tn (a 20 t) + 1) ∧ (gWt1 (a, 0) s).2 ≤ 1 := by
    unfold gWt1
    dsimp only
    by_cases c : a 0 1 - a 9 s < nI 10
    · rw [if_pos (show a 0 1 - a 9 s ≤ (9 : Int32) from (le_lt (n := 9) (by decide)).mpr c), if_pos c]
      exact ⟨b, rfl, h, hT, frS_refl a s, rfl, rfl, fun t ht => Nat.le_succ _, Nat.zero_le _⟩
    · have c' : ¬ a 0 1 - a 9 s ≤ (9 : Int32) := fun z => c ((le_lt (n := 9) (by decide)).mp z)
      rw [if_neg c', if_neg c]
      have cT : 10 ≤ T - L := by
        rw [dL] at c
        exact Nat.le_of_not_lt (fun z => c ((nI_ltI (by omega) (by decide)).mpr z))
      obtain ⟨b1, s1, s2⟩ := lk_send (w := w) (s := s) (kd := 1) (o1 := 0) (o2 := 0) (o3 := 0) (o4 := 0) h hs (Or.inr hup) (TS_N2 hT hi hC) (by omega) (by decide) (by decide) (by decide) (by decide) (by decide)
      refine ⟨b1, ?_, s2, TS_snd hup T L H β k (β + 1) k h1 h2 h5 h6 h7 h8 (by omega) (by omega), frS_snd a hs _ _ _ _ _, gSends_k _ _ _ _ _ _ _ _ _ (by decide) (by decide) (by decide) (by decide) (by decide), gSends_k _ _ _ _ _ _ _ _ _ (by decide) (by decide) (by decide) (by decide) (by decide), fun t ht => ?_, Nat.le_refl _⟩
      · rw [show f_L_send w b (nI s) (1 : Int32) (0 : Int32) (0 : Int32) (0 : Int32) (0 : Int32) = some (b1, 0) from s1, show nI x20 + (1 : Int32) = nI (x20 + 1) from nI_add x20 1]
        rfl
      · by_cases ct : t = 1 - s
        · subst ct; exact (snd_bd a s _ _ _ _ _).2
        · show tn (gSends a s _ _ _ _ _ 20 t) ≤ _
          rw [gS_20 _ _ _ _ _ _ _ ct]; omega
  obtain ⟨b1, f1, f2, f3, f4, f5, f6, f7, f8⟩ := S1
  rw [f1]
  unfold gWt
  generalize gWt1 (a, 0) s = x1 at *
  obtain ⟨a1, v1⟩ := x1
  dsimp only at f1 f2 f3 f4 f5 f6 f7 f8 ⊢
  obtain ⟨q0, -, -, -, -, -, -, q14, -⟩ := LR_1 f2 hs
  have up1' : a1 0 2 = nI 1 := f5.trans hup
  -- the test
  have S2 : ∃ b2, b_L_lines_543 k465 k483 w μ ν b1 (nI x19) (nI (x20 + v1)) (nI x21) (nI s) = b_L_lines_584 k465 k483 w μ ν b2 (nI x19) (nI (x20 + (gWt2 (a1, v1) s).2)) (nI x21) (nI s) ∧ LR Hh b2 (gWt2 (a1, v1) s).1 ∧ TS 15 i C (gWt2 (a1, v1) s).1 s ∧ frS a1 (gWt2 (a1, v1) s).1 s ∧ (∀ t, t < 2 → tn ((gWt2 (a1, v1) s).1 20 t) ≤ tn (a1 20 t) + 1) ∧ (gWt2 (a1, v1) s).2 ≤ v1 + 1 := by
    unfold gWt2 b_L_lines_543
    rw [i0, e14, i14, c0, c14, q0, q14]
    simp only [cond_true]
    by_cases c : a1 0 1 - a1 10 s = nI 15
    · rw [if_pos (show a1 0 1 - a1 10 s = (15 : Int32) from c), if_pos c]
      obtain ⟨T', L', H', β', k', g1, g2, g3, g4, g5, g6, g7, g8, g9, g10⟩ := id f3
      have cT : T' - H' = 15 := by
        rw [g1, g5, pk_sub g6] at c
        exact (nI_eq (by omega) (by decide)).mp c
      have k0 : k' = 0 := by
        by_cases z : k' = 1
        · have := g8 z; omega
        · omega
      obtain ⟨b2, s1, s2⟩ := lk_send (w := w) (s := s) (kd := 2) (o1 := 0) (o2 := 0) (o3 := 0) (o4 := 0) f2 hs (Or.inr up1') (TS_N2 f3 hi hC) (by have := f7 (1 - s) (by omega); omega) (by decide) (by decide) (by decide) (by decide) (by decide)
      refine ⟨b2, ?_, s2, TS_snd up1' T' L' H' β' k' β' 1 g1 g2 g5 g6 (by decide) (fun _ => by omega) (by omega) (by omega), frS_snd a1 hs _ _ _ _ _, fun t ht => ?_, Nat.le_refl _⟩
      · rw [show f_L_send w b1 (nI s) (2 : Int32) (0 : Int32) (0 : Int32) (0 : Int32) (0 : Int32) = some (b2, 0) from s1, show nI (x20 + v1) + (1 : Int32) = nI (x20 + v1 + 1) from nI_add (x20 + v1) 1]
        rfl
      · by_cases ct : t = 1 - s
        · subst ct; exact (snd_bd a1 s _ _ _ _ _).2
        · show tn (gSends a1 s _ _ _ _ _ 20 t) ≤ _
          rw [gS_20 _ _ _ _ _ _ _ ct]; omega
    · rw [if_neg (show ¬ a1 0 1 - a1 10 s = (15 : Int32) from c), if_neg c]
      exact ⟨b1, rfl, f2, TS_w f3, frS_refl a1 s, fun t ht => Nat.le_succ _, Nat.le_succ _⟩
  obtain ⟨b2, p1, p2, p3, p4, p5, p6⟩ := S2
  rw [p1]
  generalize gWt2 (a1, v1) s = x2 at *
  obtain ⟨a2, v2⟩ := x2
  dsimp only at p1 p2 p3 p4 p5 p6 ⊢
  obtain ⟨y0, -, -, -, -, -, -, y14, -⟩ := LR_1 p2 hs
  have fr2 := frS_trans f4 p4
  unfold gWt3 b_L_lines_584
  rw [i0, e14, i14, c0, c14, y0, y14]
  simp only [cond_true]
  by_cases c : a2 0 1 - a2 10 s < nI 25
  · rw [if_pos (show a2 0 1 - a2 10 s ≤ (24 : Int32) from (le_lt (n := 24) (by decide)).mpr c), if_pos c, n612]
    exact ⟨b2, rfl, p2, p3, fr2, fun t ht => by show tn (a2 20 t) ≤ _; have := f7 t ht; have := p5 t ht; omega, by show v2 ≤ 2; omega⟩
  · rw [if_neg (show ¬ a2 0 1 - a2 10 s ≤ (24 : Int32) from fun z => c ((le_lt (n := 24) (by decide)).mp z)), if_neg c]
    obtain ⟨b3, d1, d2⟩ := lk_down (Hg := Hh) (w := w) p2 hw
    have e00 : up2 a2 0 0 (nI 0) = a2 := by
      have z : a2 0 0 = nI 0 := fr2.2.1.trans h0
      funext k i
      by_cases cc : k = 0 ∧ i = 0
      · obtain ⟨rfl, rfl⟩ := cc; rw [up2_s, z]
      · rw [up2_n _ _ cc]
    rw [e00] at d2
    rw [d1, Option.bind_some, n612]
    obtain ⟨u1, u2, u3, u4, u5⟩ := gDn_fr a2 s
    exact ⟨b3, rfl, d2, TS_c p3 u1.1 u3 u4 u2, frS_trans fr2 u1, fun t ht => by show tn (gDown a2 20 t) ≤ _; rw [u5 t ht]; exact Nat.zero_le _, by show v2 ≤ 2; omega⟩
