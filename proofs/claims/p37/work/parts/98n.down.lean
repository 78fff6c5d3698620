/-! What doesn't touch the line; the line goes down. -/
theorem SI_mk {n : Nat → Nat} {fl rem l0 l1 l1' : Nat} {a b : AS} (hr : ∀ k, k = 3 ∨ k = 4 ∨ k = 5 ∨ k = 7 ∨ k = 8 ∨ k = 9 ∨ k = 10 ∨ k = 11 ∨ k = 18 ∨ k = 19 ∨ k = 20 ∨ k = 21 → b k = a k) (h1 : b 0 1 = a 0 1) (h2 : b 0 2 = a 0 2) (hU : 4 * (unfN b + posN b) + l1' ≤ 4 * (unfN a + posN a) + l1) (h : SI n fl rem l0 l1 a) : SI n fl rem l0 l1' b := by
  obtain ⟨hv, gL, gb, gt, gG, gz, hD, hp⟩ := h
  have r3 := hr 3 (by omega)
  have r4 := hr 4 (by omega)
  have r5 := hr 5 (by omega)
  have r7 := hr 7 (by omega)
  have r8 := hr 8 (by omega)
  have r9 := hr 9 (by omega)
  have r10 := hr 10 (by omega)
  have r11 := hr 11 (by omega)
  have r18 := hr 18 (by omega)
  have r19 := hr 19 (by omega)
  have r20 := hr 20 (by omega)
  have r21 := hr 21 (by omega)
  have eQ : ∀ t, QL b t = QL a t := fun t => QL_congr (by rw [r19]) (by rw [r20]) r21
  refine ⟨⟨by rw [h1]; exact hv.1, by rw [h2]; exact hv.2.1, fun t ht => ?_⟩, gL, gb, gt, gG, gz, fun Y hY => ?_, ?_⟩
  · obtain ⟨v1, v2, v3, v4, v5, v6, v7, v8, v9, v10, v11⟩ := hv.2.2 t ht
    unfold svS
    rw [r3, r4, r5, r7, r11, r18, r19, r20, h1, h2]
    exact ⟨v1, v2, v3, fun k hk => by rw [hr k (by omega)]; exact v4 k hk, v5, v6, v7, v8, v9, v10, v11⟩
  · have := hD Y hY
    exact DIr_of (r := rsN a Y) (Nat.le_of_eq (rsN_of (eQ _) r11)) (eQ _) r4 (by rw [r5]) (by rw [r7]) (by rw [r8]) h1 r18 (by rw [r3]) this
  · obtain ⟨p1, p2, p3, p4⟩ := hp
    have g1 : ∀ t G, gqN b t G = gqN a t G := fun t G => by unfold gqN; rw [eQ, r7]
    have g2 : ∀ t, etaN b t = etaN a t := fun t => by unfold etaN; rw [h2, r7]
    have g3 : ∀ k t, k = 9 ∨ k = 10 → quN b k t = quN a k t := fun k t h => by unfold quN; rw [h1, hr k (by omega)]
    have g4 : ∀ t, lateN b t = lateN a t := fun t => by unfold lateN; rw [h1, r8]
    have g5 : laN b = laN a := by unfold laN lgN kF; rw [r4, r11]
    have g6 : phN fl b = phN fl a := by
      unfold phN
      rw [h2, r3, g3 10 1 (by omega), g3 9 1 (by omega), g3 10 0 (by omega), r20, g5, g4]
    have e1 : VHl b = VHl a := by unfold VHl kF lgN; rw [r4, r11]
    have e2 : VHp b = VHp a := by unfold VHp kF lgN; rw [r4, r11, r5]
    have x2 := VT_le (fl := fl) (a := a) (b := b) (G := gG 0) (G' := gG 0) r4 r11 (by rw [r5]) (by rw [g3 9 0 (by omega)]; exact Nat.le_refl _) (by rw [g3 10 0 (by omega)]; exact Nat.le_refl _) (by rw [g3 10 1 (by omega)]; exact Nat.le_refl _) (by rw [g4]; exact Nat.le_refl _)
    rw [g1, g2] at x2
    obtain ⟨f1, f2⟩ := VS_eq (fl := fl) (a := a) (b := b) r4 r11
    have x1 : VH fl b (gG 1) + 4 * (unfN a + posN a) = VH fl a (gG 1) + 4 * (unfN b + posN b) := by
      unfold VH
      rw [e1, e2, g1, g2, g6]
      omega
    exact ⟨by omega, by omega, by rw [f1]; exact p3, by rw [f2]; exact p4⟩
/-- the thing that a call tells of itself -/
theorem SI_stop {n : Nat → Nat} {fl rem l0 l1 : Nat} {a : AS} {v : Int32} (h : SI n fl rem l0 l1 a) : SI n fl rem l0 l1 (up2 a 0 0 v) := SI_mk (fun k hk => by simp (disch := omega) only [up2, up1_n]) (up2_n _ _ (by omega)) (up2_n _ _ (by omega)) (Nat.le_refl _) h
/-! going down -/
theorem gForgets_r (a : AS) (s k : Nat) (h : k ≠ 18) (h1 : k ≠ 6) (h2 : k ≠ 7) (h3 : k ≠ 3) (h4 : k ≠ 19) (h5 : k ≠ 20) : gForgets a s k = a k := by
  unfold gForgets zr
  simp (disch := omega) only [up2, up1_n]
theorem gForgets_0 (a : AS) (s k t : Nat) (h : k = 7 ∨ k = 3 ∨ k = 19 ∨ k = 20) : gForgets a s k t = if t = s then nI 0 else a k t := by
  unfold gForgets zr
  by_cases c : t = s
  · rw [if_pos c, c]
    rcases h with rfl | rfl | rfl | rfl <;> simp (disch := omega) only [up2_n, up2_s]
  · rw [if_neg c]
    rcases h with rfl | rfl | rfl | rfl <;> simp (disch := omega) only [up2_n, up1_n]
theorem gForgets_18 (a : AS) (s i : Nat) : gForgets a s 18 i = if 8192 * s ≤ i ∧ i < 8192 * s + 8192 then nI 0 else a 18 i := by
  have e : gForgets a s 18 = zr a s 0 8192 18 := by unfold gForgets; simp (disch := omega) only [up2, up1_n]
  rw [e]
  unfold zr
  rw [up1_s]
  rfl
theorem gDown_r (a : AS) (k : Nat) (h : k ≠ 18) (h1 : k ≠ 6) (h2 : k ≠ 7) (h3 : k ≠ 3) (h4 : k ≠ 19) (h5 : k ≠ 20) (h6 : k ≠ 0) : gDown a k = a k := by
  unfold gDown
  rw [gForgets_r _ _ _ h h1 h2 h3 h4 h5, gForgets_r _ _ _ h h1 h2 h3 h4 h5]
  simp (disch := omega) only [up2, up1_n]
theorem gDown_z (a : AS) (k t : Nat) (ht : t < 2) (h : k = 7 ∨ k = 3 ∨ k = 19 ∨ k = 20) : gDown a k t = nI 0 := by
  unfold gDown
  rw [gForgets_0 _ _ _ _ h, gForgets_0 _ _ _ _ h]
  rcases (show t = 0 ∨ t = 1 by omega) with rfl | rfl <;> rfl
theorem gDown_00 (a : AS) (i : Nat) : gDown a 0 i = if i = 2 then nI 0 else a 0 i := by
  unfold gDown
  rw [gForgets_r _ _ 0 (by decide) (by decide) (by decide) (by decide) (by decide) (by decide), gForgets_r _ _ 0 (by decide) (by decide) (by decide) (by decide) (by decide) (by decide)]
  by_cases c : i = 2
  · rw [if_pos c, c, up2_s]
  · rw [if_neg c, up2_n _ _ (by omega)]
theorem gDown_18 (a : AS) (t i : Nat) (ht : t < 2) (hi : i < 8192) : gDown a 18 (8192 * t + i) = nI 0 := by
  unfold gDown
  rw [gForgets_18, gForgets_18]
  rcases (show t = 0 ∨ t = 1 by omega) with rfl | rfl
  · rw [if_neg (by omega), if_pos (by omega)]
  · rw [if_pos (by omega)]
theorem phX_le {fl u o1 o0 dH eH dT q0 la v : Nat} (hfl : fl ≠ 2) (h : o1 ≠ 0) : 1 ≤ phX fl u o1 o0 dH eH dT q0 la v := by
  unfold phX phs
  rw [if_neg hfl, if_pos h]
  omega
/-- going down pays one if the house was on -/
theorem SI_down {n : Nat → Nat} {fl rem l0 l1 x : Nat} {a : AS} (hfl : fl ≠ 2) (hv1 : ∃ T : Nat, a 0 1 = nI T ∧ T ≤ 30000)
    (hvs : ∀ s, s < 2 → (∃ S : Nat, a 4 s = nI S ∧ S ≤ 8190) ∧ (∃ E : Nat, a 5 s = nI E ∧ E ≤ 8191) ∧ (∀ k, k = 8 ∨ k = 9 ∨ k = 10 → ∃ v : Nat, a k s = nI v ∧ v ≤ tn (a 0 1)) ∧ (∀ n, 1 ≤ n → n ≤ tn (a 4 s) → ∃ kd : Nat, a 11 (8192 * s + n) = nI kd ∧ kd ≤ 8 ∧ kd ≠ 4 ∧ (s = 0 → kd ≤ 7) ∧ (s = 1 → kd ≤ 3 ∨ kd = 8)))
    (hx : x ≤ phN fl a) {gL : Nat → List (List Nat)} {gb gt : Nat → Nat} {gG : Nat → List Nat} {gz : Nat → Nat} (hD : ∀ Y, Y < 2 → DI (vB n Y) (n 0) (n (1 + Y)) (icN fl Y) a Y (gL Y) (gb Y) (gt Y) (gG Y) (gz Y)) (h1 : VH fl a (gG 1) + l1 ≤ bH n + x) (h2 : VT fl a (gG 0) + 10 * l0 + rem ≤ bT n) (h3 : VS fl a ≤ bS n) (h4 : VA a ≤ bA n) : SI n fl rem l0 l1 (gDown a) := by
  have r : ∀ k, k ≠ 18 → k ≠ 6 → k ≠ 7 → k ≠ 3 → k ≠ 19 → k ≠ 20 → k ≠ 0 → gDown a k = a k := gDown_r a
  have r4 := r 4 (by decide) (by decide) (by decide) (by decide) (by decide) (by decide) (by decide)
  have r5 := r 5 (by decide) (by decide) (by decide) (by decide) (by decide) (by decide) (by decide)
  have r8 := r 8 (by decide) (by decide) (by decide) (by decide) (by decide) (by decide) (by decide)
  have r9 := r 9 (by decide) (by decide) (by decide) (by decide) (by decide) (by decide) (by decide)
  have r10 := r 10 (by decide) (by decide) (by decide) (by decide) (by decide) (by decide) (by decide)
  have r11 := r 11 (by decide) (by decide) (by decide) (by decide) (by decide) (by decide) (by decide)
  have e01 : gDown a 0 1 = a 0 1 := by rw [gDown_00, if_neg (by decide)]
  have e02 : gDown a 0 2 = nI 0 := by rw [gDown_00, if_pos rfl]
  have eh : ∀ t i, t < 2 → hN (gDown a) t i = 0 := fun t i ht => by
    unfold hN
    by_cases c : i < 8192
    · rw [if_pos c, gDown_18 a t i ht c]; rfl
    · rw [if_neg c]
  have eQ : ∀ t, t < 2 → QL (gDown a) t = [] := fun t ht => QL_nil (gDown_z a 20 t ht (by omega))
  have e4 : ∀ t, lgN (gDown a) t = lgN a t := fun t => by unfold lgN; rw [r4]
  refine ⟨⟨by rw [e01]; exact hv1, by rw [e02]; exact Or.inl rfl, fun t ht => ?_⟩, fun _ => [[]], fun _ => 0, fun _ => 0, fun _ => [], fun Y => tn (a 5 Y), fun Y hY => ?_, ?_⟩
  · obtain ⟨w1, w2, w3, w4⟩ := hvs t ht
    unfold svS
    rw [r4, r5, r11, e01, e02, gDown_z a 7 t ht (by omega), gDown_z a 3 t ht (by omega), gDown_z a 19 t ht (by omega), gDown_z a 20 t ht (by omega)]
    refine ⟨w1, w2, ⟨0, rfl, by omega⟩, fun k hk => by rw [r k (by omega) (by omega) (by omega) (by omega) (by omega) (by omega) (by omega)]; exact w3 k hk, ⟨0, rfl, by omega⟩, ⟨0, rfl, by omega⟩, Or.inl rfl, fun _ => ⟨rfl, rfl, rfl⟩, fun h => absurd rfl h, w4, fun i hi => ⟨0, gDown_18 a t i ht hi, by omega, by omega⟩⟩
  · obtain ⟨d1, d2, d3⟩ := hD Y hY
    have hrs : rsN (gDown a) Y = 0 := by
      unfold rsN
      rw [eQ (1 - Y) (by omega)]
      rfl
    obtain ⟨k1, k2, -⟩ := d2
    unfold DI
    rw [eQ Y hY, e4, r5, r8, e01, hrs, gDown_z a 7 Y hY (by omega)]
    exact ⟨DQ_new k1 d1, DK_new (eh Y · hY) k1 k2, fun _ => ⟨fun i => eh Y i hY, rfl⟩⟩
  · have g1 : ∀ t, t < 2 → gqN (gDown a) t [] = 0 := fun t ht => by unfold gqN; rw [eQ t ht]; rfl
    have g2 : ∀ t, etaN (gDown a) t = 0 := fun t => by unfold etaN; rw [if_neg (fun h => h.1 e02)]
    have g6 : phN fl (gDown a) = 0 := by
      unfold phN phX phs
      rw [if_neg hfl, e02, gDown_z a 3 1 (by decide) (by omega)]
      rfl
    have x1 := VH_eq (fl := fl) (a := a) (b := gDown a) (G := gG 1) (G' := []) r4 r11 (by rw [r5]) (by rw [gDown_00, if_neg (by decide)]) (r 24 (by decide) (by decide) (by decide) (by decide) (by decide) (by decide) (by decide)) (r 26 (by decide) (by decide) (by decide) (by decide) (by decide) (by decide) (by decide)) (r 27 (by decide) (by decide) (by decide) (by decide) (by decide) (by decide) (by decide)) (r 28 (by decide) (by decide) (by decide) (by decide) (by decide) (by decide) (by decide)) (r 34 (by decide) (by decide) (by decide) (by decide) (by decide) (by decide) (by decide))
    have x2 := VT_le (fl := fl) (a := a) (b := gDown a) (G := gG 0) (G' := []) r4 r11 (by rw [r5]) (by unfold quN; rw [e01, r9]; exact Nat.le_refl _) (by unfold quN; rw [e01, r10]; exact Nat.le_refl _) (by unfold quN; rw [e01, r10]; exact Nat.le_refl _) (by unfold lateN; rw [e01, r8]; exact Nat.le_refl _)
    rw [g1 1 (by decide), g2, g6] at x1
    rw [g1 0 (by decide), g2] at x2
    obtain ⟨f1, f2⟩ := VS_eq (fl := fl) (a := a) (b := gDown a) r4 r11
    exact ⟨by show VH fl (gDown a) [] + l1 ≤ _; omega, by show VT fl (gDown a) [] + 10 * l0 + rem ≤ _; omega, by rw [f1]; exact h3, by rw [f2]; exact h4⟩
theorem SI_cut {n : Nat → Nat} {fl rem l0 l1 : Nat} {a : AS} (hfl : fl ≠ 2) (h : SI n fl rem l0 l1 a) : SI n fl rem l0 l1 (gDown a) := by
  obtain ⟨hv, gL, gb, gt, gG, gz, hD, p1, p2, p3, p4⟩ := h
  refine SI_down (x := 0) hfl hv.1 (fun s hs => ?_) (Nat.zero_le _) hD (by omega) p2 p3 p4
  obtain ⟨v1, v2, v3, v4, v5, v6, v7, v8, v9, v10, v11⟩ := hv.2.2 s hs
  exact ⟨v1, v2, v4, v10⟩
