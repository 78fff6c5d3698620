/-! A tick, whole. -/
theorem own_mono (d e : Nat) : own (d + 1) (e + 1) ≤ own d e := by
  unfold own
  by_cases c : 15 ≤ d
  · rw [if_pos c, if_pos (by omega)]; exact Nat.le_refl _
  · rw [if_neg c]
    by_cases c1 : 15 ≤ d + 1
    · rw [if_pos c1]; exact Nat.zero_le _
    · rw [if_neg c1]
      have h : d + max 1 (10 - e) ≤ d + 1 + max 1 (10 - (e + 1)) := by omega
      have h2 : (if d + 1 + max 1 (10 - (e + 1)) ≤ 15 then 1 else 0) ≤ (if d + max 1 (10 - e) ≤ 15 then 1 else 0) := by
        split
        · rw [if_pos (by omega)]; exact Nat.le_refl _
        · exact Nat.zero_le _
      have h3 : (if d + 1 + max 1 (10 - (e + 1)) + 10 ≤ 15 then 1 else 0) ≤ (if d + max 1 (10 - e) + 10 ≤ 15 then 1 else 0) := by
        split
        · rw [if_pos (by omega)]; exact Nat.le_refl _
        · exact Nat.zero_le _
      omega
theorem phX_3 (u o1 o0 dH eH dT q0 la v : Nat) : phX 3 u o1 o0 dH eH dT q0 la v = phs u o1 o0 dH eH dT q0 la := if_neg (by decide)
theorem phs_tk {u o1 o0 dH eH dT q0 la : Nat} (h1 : o1 ≠ 0 → dH ≤ 24) (h0 : o0 ≠ 0 → u ≠ 0) : phs u o1 o0 (dH + 1) (eH + 1) (dT + 1) q0 la + (if o0 ≠ 0 ∧ dT + 1 = 15 then 1 else 0) ≤ phs u o1 o0 dH eH dT q0 la := by
  unfold phs
  by_cases c1 : o1 ≠ 0
  · rw [if_pos c1, if_pos c1]
    have := own_mono dH eH
    have t := tst_tick (t := dT) (h1 c1)
    have : (if o0 ≠ 0 ∧ dT + 1 = 15 then 1 else 0) ≤ (if dT + 1 = 15 then 1 else 0) := by
      split
      · rename_i h; rw [if_pos h.2]; exact Nat.le_refl _
      · exact Nat.zero_le _
    omega
  · rw [if_neg c1, if_neg c1]
    by_cases cu : u ≠ 0
    · rw [if_pos cu, if_pos cu]
      by_cases c0 : o0 ≠ 0
      · have e1 : (o0 ≠ 0 ∧ dT + 1 < 15) ↔ dT + 1 < 15 := ⟨fun h => h.2, fun h => ⟨c0, h⟩⟩
        have e2 : (o0 ≠ 0 ∧ dT < 15) ↔ dT < 15 := ⟨fun h => h.2, fun h => ⟨c0, h⟩⟩
        have e3 : (o0 ≠ 0 ∧ dT + 1 = 15) ↔ dT + 1 = 15 := ⟨fun h => h.2, fun h => ⟨c0, h⟩⟩
        simp only [e1, e2, e3]
        generalize (if la ≠ 0 then 1 else 2) = w
        by_cases c2 : dT + 1 = 15
        · rw [if_pos c2, if_neg (by omega), if_pos (by omega)]; omega
        · rw [if_neg c2]
          by_cases c3 : dT < 15
          · rw [if_pos (show dT + 1 < 15 by omega), if_pos c3]; omega
          · rw [if_neg (show ¬ dT + 1 < 15 by omega), if_neg c3]; omega
      · have e1 : ¬ (o0 ≠ 0 ∧ dT + 1 < 15) := fun h => c0 h.1
        have e2 : ¬ (o0 ≠ 0 ∧ dT < 15) := fun h => c0 h.1
        have e3 : ¬ (o0 ≠ 0 ∧ dT + 1 = 15) := fun h => c0 h.1
        simp only [e1, e2, e3, if_false]
        omega
    · rw [if_neg cu, if_neg cu, if_neg (fun h => cu (h0 h.1))]; omega
theorem phs_tk2 {u o1 o0 dH eH dT q0 la : Nat} (h1 : o1 ≠ 0) (hd : dH + 1 ≤ 24) (he : 15 ≤ dH → eH + 15 ≤ dH) : phs u o1 o0 (dH + 1) (if 10 ≤ eH + 1 ∨ dH + 1 = 15 then 0 else eH + 1) (dT + 1) q0 la + ((if 10 ≤ eH + 1 then 1 else 0) + (if dH + 1 = 15 then 1 else 0) + (if o0 ≠ 0 ∧ dT + 1 = 15 then 1 else 0)) ≤ phs u o1 o0 dH eH dT q0 la := by
  unfold phs
  rw [if_pos h1, if_pos h1]
  have w := (own_tick hd he).1
  have t := tst_tick (d := dH) (t := dT) (by omega)
  have : (if o0 ≠ 0 ∧ dT + 1 = 15 then 1 else 0) ≤ (if dT + 1 = 15 then 1 else 0) := by
    split
    · rename_i h; rw [if_pos h.2]; exact Nat.le_refl _
    · exact Nat.zero_le _
  omega
def wB (x : AS) (s : Nat) : AS := gSends x s (nI 1) (nI 0) (nI 0) (nI 0) (nI 0)
def wT (x : AS) (s : Nat) : AS := gSends x s (nI 2) (nI 0) (nI 0) (nI 0) (nI 0)
def wS (x : AS) (s : Nat) (p q : Prop) [Decidable p] [Decidable q] : AS := if q then wT (if p then wB x s else x) s else (if p then wB x s else x)
theorem w_10 (x : AS) (s t : Nat) : wB x s 10 t = x 10 t ∧ wT x s 10 t = x 10 t ∧ wB x s 0 = x 0 ∧ wT x s 0 = x 0 ∧ wB x s 3 = x 3 ∧ wT x s 3 = x 3 := by
  unfold wB wT
  refine ⟨?_, ?_, ?_, ?_, ?_, ?_⟩
  · rw [gSends_r _ _ _ _ _ _ _ 10 (by decide) (by decide) (by decide) (by decide) (by decide)]
  · rw [gSends_r _ _ _ _ _ _ _ 10 (by decide) (by decide) (by decide) (by decide) (by decide)]
  · exact gSends_r _ _ _ _ _ _ _ 0 (by decide) (by decide) (by decide) (by decide) (by decide)
  · exact gSends_r _ _ _ _ _ _ _ 0 (by decide) (by decide) (by decide) (by decide) (by decide)
  · exact gSends_r _ _ _ _ _ _ _ 3 (by decide) (by decide) (by decide) (by decide) (by decide)
  · exact gSends_r _ _ _ _ _ _ _ 3 (by decide) (by decide) (by decide) (by decide) (by decide)
theorem gWt_n {x : AS} {s T X C : Nat} (hT : x 0 1 = nI T) (hT2 : T < 2 ^ 30) (h9 : x 9 s = nI X) (hX : X ≤ T) (h10 : x 10 s = nI C) (hC : C ≤ T) : (gWt x s).1 = if 25 ≤ T - C then gDown (if 10 ≤ T - X then wB x s else x) else wS x s (10 ≤ T - X) (T - C = 15) := by
  have e1 : (gWt1 (x, 0) s).1 = if 10 ≤ T - X then wB x s else x := by
    unfold gWt1
    show (if x 0 1 - x 9 s < nI 10 then _ else _ : AS × Nat).1 = _
    rw [hT, h9, pk_sub hX]
    by_cases c : 10 ≤ T - X
    · rw [if_neg (fun h => by have := (nI_ltI (by omega) (by decide)).mp h; omega), if_pos c]; rfl
    · rw [if_pos ((nI_ltI (by omega) (by decide)).mpr (by omega)), if_neg c]
  generalize hy : gWt1 (x, 0) s = y at e1
  have y0 : y.1 0 1 = nI T ∧ y.1 10 s = nI C := by
    rw [e1]
    split
    · rw [(w_10 x s s).2.2.1, (w_10 x s s).1]; exact ⟨hT, h10⟩
    · exact ⟨hT, h10⟩
  have e2 : (gWt2 y s).1 = if T - C = 15 then wT y.1 s else y.1 := by
    unfold gWt2
    rw [y0.1, y0.2, pk_sub hC]
    by_cases c : T - C = 15
    · rw [if_pos (by rw [c]), if_pos c]; rfl
    · rw [if_neg (fun h => c ((nI_eq (by omega) (by decide)).mp h)), if_neg c]
  generalize hz : gWt2 y s = z at e2
  have z0 : z.1 0 1 = nI T ∧ z.1 10 s = nI C := by
    rw [e2]
    split
    · rw [(w_10 y.1 s s).2.2.2.1, (w_10 y.1 s s).2.1]; exact y0
    · exact y0
  have e3 : (gWt3 z s).1 = if 25 ≤ T - C then gDown z.1 else z.1 := by
    unfold gWt3
    rw [z0.1, z0.2, pk_sub hC]
    by_cases c : 25 ≤ T - C
    · rw [if_neg (fun h => by have := (nI_ltI (by omega) (by decide)).mp h; omega), if_pos c]
    · rw [if_pos ((nI_ltI (by omega) (by decide)).mpr (by omega)), if_neg c]
  have : (gWt x s).1 = (gWt3 z s).1 := by unfold gWt; rw [hy, hz]
  rw [this, e3]
  by_cases c : 25 ≤ T - C
  · rw [if_pos c, if_pos c, e2, if_neg (by omega), e1]
  · rw [if_neg c, if_neg c, e2, e1]
    rfl
/-- the clock's numbers -/
theorem clk {n : Nat → Nat} {fl rem l0 l1 : Nat} {a : AS} (h : SI n fl rem l0 l1 a) : ∃ T : Nat, a 0 1 = nI T ∧ T ≤ 30000 ∧ tn (a 0 1) = T ∧ ∀ k s, s < 2 → k = 8 ∨ k = 9 ∨ k = 10 → ∃ v : Nat, a k s = nI v ∧ v ≤ T ∧ tn (a k s) = v := by
  obtain ⟨⟨⟨T, eT, hT⟩, -, hvs⟩, -⟩ := h
  have eT' : tn (a 0 1) = T := by rw [eT, tnI (by omega)]
  refine ⟨T, eT, hT, eT', fun k s hs hk => ?_⟩
  obtain ⟨-, -, -, v4, -⟩ := hvs s hs
  obtain ⟨v, e, hv⟩ := v4 k hk
  rw [eT'] at hv
  exact ⟨v, e, hv, by rw [e, tnI (by omega)]⟩
theorem tkA_id (a : AS) : tkA a (a 9 1) = gTk0 a := by
  unfold tkA gTk0
  funext k i
  by_cases c : k = 9 ∧ i = 1
  · obtain ⟨rfl, rfl⟩ := c
    rw [up2_s, up2_n _ _ (by decide)]
  · rw [up2_n _ _ c]
/-- the trader's watch -/
theorem SI_wS0 {n : Nat → Nat} {rem l0 l1 : Nat} {x : AS} {X C : Nat} (hn : sm8 n ≤ 512) (hO : n 4 ≤ 40) (hup : x 0 2 ≠ nI 0) (hX : quN x 9 0 = X) (h : SI n 3 rem (l0 + if C = 15 then 1 else 0) (l1 + if C = 15 then 1 else 0) x) : SI n 3 rem l0 l1 (wS x 0 (10 ≤ X) (C = 15)) := by
  have h1 : SI n 3 rem (l0 + if C = 15 then 1 else 0) (l1 + if C = 15 then 1 else 0) (if 10 ≤ X then wB x 0 else x) := by
    by_cases c : 10 ≤ X
    · rw [if_pos c]; exact SI_beat0 hn hO hup (by omega) h
    · rw [if_neg c]; exact h
  unfold wS
  by_cases c : C = 15
  · rw [if_pos c] at h1 ⊢
    exact SI_test0 hn hO h1
  · rw [if_neg c] at h1 ⊢
    exact h1
/-- the tick to behind the trader's watch; y: what is put aside for the house -/
theorem SI_tk1 {n : Nat → Nat} {rem l0 l1 y0 y1 : Nat} {a : AS} {v : Int32} (hn : sm8 n ≤ 512) (hO : n 4 ≤ 40) (h : SI n 3 (rem + 1) l0 l1 a) (hT : tn (a 0 1) < 30000) (hv1 : v = a 9 1 ∨ v = a 0 1 + 1) (hph : phN 3 (tkA a v) + ((if a 3 0 ≠ nI 0 ∧ quN a 10 0 + 1 = 15 then 1 else 0) + y1) ≤ phN 3 a) (hy0 : y0 ≤ if quN a 10 1 = 14 then 1 else 0) (h0 : a 3 0 = nI 0 ∨ quN a 10 0 + 1 < 25) : SI n 3 rem (l0 + y0) (l1 + y1) (if a 3 0 = nI 0 then tkA a v else wS (tkA a v) 0 (10 ≤ quN a 9 0 + 1) (quN a 10 0 + 1 = 15)) := by
  have hon := h.1.2.2 0 (by decide)
  by_cases c0 : a 3 0 = nI 0
  · rw [if_pos c0]
    obtain ⟨g1, g2⟩ := SI_tk (y0 := y0) (y1 := y1) h hT hv1 (by rw [if_neg (fun h => h.1 c0)] at hph; omega) (by omega)
    exact g1
  · rw [if_neg c0]
    have hup : a 0 2 ≠ nI 0 := hon.2.2.2.2.2.2.2.2.1 c0
    have e9 : quN (tkA a v) 9 0 = quN a 9 0 + 1 := by
      obtain ⟨T, eT, hT', eT2, hk⟩ := clk h
      obtain ⟨X, e, hX, eX⟩ := hk 9 0 (by decide) (by omega)
      have g2 := (SI_tk (y0 := 0) (y1 := 0) h hT hv1 (by omega) (by omega)).2
      unfold quN
      rw [g2, show tkA a v 9 0 = a 9 0 from rfl]
      omega
    refine SI_wS0 hn hO hup e9 ?_
    by_cases c : quN a 10 0 + 1 = 15
    · rw [if_pos ⟨c0, c⟩] at hph
      rw [if_pos c]
      obtain ⟨g1, g2⟩ := SI_tk (y0 := y0 + 1) (y1 := y1 + 1) h hT hv1 (by omega) (by rw [if_pos (show quN a 10 0 = 14 by omega)]; omega)
      exact g1
    · rw [if_neg (fun h => c h.2)] at hph
      rw [if_neg c]
      obtain ⟨g1, g2⟩ := SI_tk (y0 := y0) (y1 := y1) h hT hv1 (by omega) (by omega)
      exact g1
