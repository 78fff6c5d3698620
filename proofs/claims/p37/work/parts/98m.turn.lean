/-! The expected one is taken, from the way or from what is held; what is held below is thrown away. -/
/-- what a thing taken pays for: a TEST taken by the trader; an app message or a TEST taken by the house -/
def pay0 (a : AS) (s E : Nat) : Nat := if s = 0 ∧ kF a 1 E = 2 then 1 else 0
def pay1 (a : AS) (s E : Nat) : Nat := if s = 1 then (if 5 ≤ kF a 0 E then 5 else if kF a 0 E = 2 then 1 else 0) else 0
theorem sv_5 {a : AS} {s E : Nat} (hE : E ≤ 8191) (h : sv a) : sv (up2 a 5 s (nI E)) := by
  refine ⟨h.1, h.2.1, fun t ht => ?_⟩
  obtain ⟨v1, v2, v3, v4, v5, v6, v7, v8, v9, v10, v11⟩ := h.2.2 t ht
  refine ⟨v1, ?_, v3, fun k hk => ?_, v5, v6, v7, v8, v9, v10, v11⟩
  · by_cases c : t = s
    · rw [c, up2_s]; exact ⟨E, rfl, hE⟩
    · rw [up2_n _ _ (by omega)]; exact v2
  · rw [up2_n _ _ (by omega)]; exact v4 k hk
theorem pot_5 {n : Nat → Nat} {fl rem l0 l1 : Nat} {a : AS} {s E' : Nat} {gG : Nat → List Nat} (hs : s < 2) (h1 : 1 ≤ tn (a 5 s)) (hE : tn (a 5 s) < E') (hE' : E' ≤ 8191) (hS : tn (a 5 s) ≤ lgN a (1 - s)) (h : pot n fl rem l0 l1 a gG) : pot n fl rem (l0 + pay0 a s (tn (a 5 s))) (l1 + pay1 a s (tn (a 5 s))) (up2 a 5 s (nI E')) gG := by
  obtain ⟨p1, p2, p3, p4⟩ := h
  have hV : VH fl (up2 a 5 s (nI E')) (gG 1) = VHl a + VHp (up2 a 5 s (nI E')) + 4 * (unfN a + posN a) + (gqN a 1 (gG 1) + etaN a 1) + phN fl a := rfl
  have hV0 : VH fl a (gG 1) = VHl a + VHp a + 4 * (unfN a + posN a) + (gqN a 1 (gG 1) + etaN a 1) + phN fl a := rfl
  have hT : VT fl (up2 a 5 s (nI E')) (gG 0) = 10 * lgN a 0 + min (quN a 9 0) 10 + 10 * (if fl = 1 ∨ quN a 10 0 < 15 then 1 else 0) + 10 * (if fl = 2 ∨ quN a 10 1 < 15 then 1 else 0) + 10 * pnd isT (kF a 1) (tn (up2 a 5 s (nI E') 5 0)) (lgN a 1) + 10 * (gqN a 0 (gG 0) + etaN a 0) + 10 * (if fl = 1 then lateN a 0 else 0) := rfl
  have hT0 : VT fl a (gG 0) = 10 * lgN a 0 + min (quN a 9 0) 10 + 10 * (if fl = 1 ∨ quN a 10 0 < 15 then 1 else 0) + 10 * (if fl = 2 ∨ quN a 10 1 < 15 then 1 else 0) + 10 * pnd isT (kF a 1) (tn (a 5 0)) (lgN a 1) + 10 * (gqN a 0 (gG 0) + etaN a 0) + 10 * (if fl = 1 then lateN a 0 else 0) := rfl
  have hP : VHp (up2 a 5 s (nI E')) = 5 * pnd isA (kF a 0) (tn (up2 a 5 s (nI E') 5 1)) (lgN a 0) + pnd isT (kF a 0) (tn (up2 a 5 s (nI E') 5 1)) (lgN a 0) := rfl
  have hP0 : VHp a = 5 * pnd isA (kF a 0) (tn (a 5 1)) (lgN a 0) + pnd isT (kF a 0) (tn (a 5 1)) (lgN a 0) := rfl
  have hA : ∀ k, isA k = true ↔ 5 ≤ k := fun k => by unfold isA; exact decide_eq_true_iff
  have hTT : ∀ k, isT k = true ↔ k = 2 := fun k => by unfold isT; exact decide_eq_true_iff
  rcases (show s = 0 ∨ s = 1 by omega) with rfl | rfl
  · have e1 : up2 a 5 0 (nI E') 5 1 = a 5 1 := up2_n _ _ (by decide)
    have e0 : up2 a 5 0 (nI E') 5 0 = nI E' := up2_s _ _ _ _
    rw [e1] at hP
    rw [e0, tnI (by omega)] at hT
    have m1 := pnd_mono (p := isT) (f := kF a 1) (Nat.le_of_lt hE) (lgN a 1)
    have p0 : pay1 a 0 (tn (a 5 0)) = 0 := rfl
    have q0 : pnd isT (kF a 1) E' (lgN a 1) + pay0 a 0 (tn (a 5 0)) ≤ pnd isT (kF a 1) (tn (a 5 0)) (lgN a 1) := by
      unfold pay0
      by_cases c : kF a 1 (tn (a 5 0)) = 2
      · rw [if_pos ⟨rfl, c⟩]
        exact pnd_take hE h1 ((hTT _).mpr c) _ hS
      · rw [if_neg (fun h => c h.2)]; exact m1
    exact ⟨by omega, by omega, p3, p4⟩
  · have e1 : up2 a 5 1 (nI E') 5 1 = nI E' := up2_s _ _ _ _
    have e0 : up2 a 5 1 (nI E') 5 0 = a 5 0 := up2_n _ _ (by decide)
    rw [e0] at hT
    rw [e1, tnI (by omega)] at hP
    have m1 := pnd_mono (p := isT) (f := kF a 0) (Nat.le_of_lt hE) (lgN a 0)
    have m2 := pnd_mono (p := isA) (f := kF a 0) (Nat.le_of_lt hE) (lgN a 0)
    have p0 : pay0 a 1 (tn (a 5 1)) = 0 := rfl
    have q0 : 5 * pnd isA (kF a 0) E' (lgN a 0) + pnd isT (kF a 0) E' (lgN a 0) + pay1 a 1 (tn (a 5 1)) ≤ 5 * pnd isA (kF a 0) (tn (a 5 1)) (lgN a 0) + pnd isT (kF a 0) (tn (a 5 1)) (lgN a 0) := by
      unfold pay1
      rw [if_pos rfl]
      by_cases c : 5 ≤ kF a 0 (tn (a 5 1))
      · rw [if_pos c]
        have := pnd_take (p := isA) (f := kF a 0) hE h1 ((hA _).mpr c) (lgN a 0) hS
        omega
      · rw [if_neg c]
        by_cases c2 : kF a 0 (tn (a 5 1)) = 2
        · rw [if_pos c2]
          have := pnd_take (p := isT) (f := kF a 0) hE h1 ((hTT _).mpr c2) (lgN a 0) hS
          omega
        · rw [if_neg c2]; omega
    exact ⟨by omega, by omega, p3, p4⟩
theorem DI_5o {VB nP nC ic : Nat} {a : AS} {s : Nat} {v : Int32} {L : List (List Nat)} {b tb : Nat} {G : List Nat} {z : Nat} (hs : s < 2) (h : DI VB nP nC ic a (1 - s) L b tb G z) : DI VB nP nC ic (up2 a 5 s v) (1 - s) L b tb G z :=
  DIr_of (a := a) (b := up2 a 5 s v) (r := rsN a (1 - s)) (Nat.le_refl _) rfl rfl (up2_n _ _ (by omega)) rfl rfl rfl rfl rfl h
theorem SIp_take {n : Nat → Nat} {fl rem l0 l1 : Nat} {a : AS} {s c : Nat} (hs : s < 2) (hc : cEn c = tn (a 5 s)) (h : SIp n fl rem l0 l1 a s c 0) : SI n fl rem (l0 + pay0 a s (cEn c)) (l1 + pay1 a s (cEn c)) (up2 a 5 s (nI (cNx c))) ∧ tn (a 7 s) < cNx c ∧ cNx c ≤ 8191 := by
  obtain ⟨hv, hon, h10, hup, gL, gb, gt, gG, gz, dq, dk, p3, p4, p5, p6, ho, hp⟩ := h
  obtain ⟨⟨S, e4, hS⟩, -⟩ := hv.2.2 (1 - s) (by omega)
  have hlg : lgN a (1 - s) = S := by unfold lgN; rw [e4, tnI (by omega)]
  have hgt := cNx_gt c
  have h8 : cNx c ≤ 8191 := by omega
  obtain ⟨k1, k2, k3, k4, k5, -⟩ := id dk
  have hAE : tn (a 7 s) ≤ tn (a 5 s) := by omega
  have hb : gb s = 1 ∨ tn (a 7 s) ≠ tn (a 5 s) := by
    rcases p4 with h | h | h
    · exact Or.inl h
    · exact Or.inr h
    · omega
  have e5 : tn (up2 a 5 s (nI (cNx c)) 5 s) = cNx c := by rw [up2_s, tnI (by omega)]
  refine ⟨⟨sv_5 h8 hv, gL, gb, gt, gG, gz, fun Y hY => ?_, ?_⟩, by omega, h8⟩
  · by_cases c1 : Y = s
    · subst c1
      refine ⟨?_, ?_, fun h => absurd h hon⟩
      · rw [e5]
        exact DQ_E hAE (by omega) hb dq
      · rw [e5]
        exact DK_take hc p5.2.2.1 p6 dk
    · have : Y = 1 - s := by omega
      subst this
      exact DI_5o hs ho
  · rw [hc]
    exact pot_5 hs k1 (by omega) h8 (by omega) hp
/-- throwing away what is held below -/
theorem gThr_18 (s : Nat) : ∀ (d n : Nat) (a : AS) (i : Nat), (gThrL s d n a) 18 i = if 8192 * s + n ≤ i ∧ i < 8192 * s + n + d then nI 0 else a 18 i := by
  intro d
  induction d with
  | zero =>
    intro n a i
    rw [if_neg (by omega)]
    rfl
  | succ d ih =>
    intro n a i
    show (gThrL s d (n + 1) (gThr1 a s n)) 18 i = _
    rw [ih]
    have e : gThr1 a s n 18 i = if i = 8192 * s + n then nI 0 else a 18 i := by
      unfold gThr1
      by_cases c : i = 8192 * s + n
      · rw [if_pos c, c, up2_s]
      · rw [if_neg c, up2_n _ _ (by omega), up2_n _ _ (by omega)]
    rw [e]
    by_cases c1 : 8192 * s + n ≤ i ∧ i < 8192 * s + n + (d + 1)
    · rw [if_pos c1]
      by_cases c2 : i = 8192 * s + n
      · rw [if_neg (by omega), if_pos c2]
      · rw [if_pos (by omega)]
    · rw [if_neg c1, if_neg (by omega), if_neg (by omega)]
theorem gThrow_r (a : AS) (s k : Nat) (h : k ≠ 6) (h' : k ≠ 18) : gThrow a s k = a k := funext fun i => gThrL_k s _ _ _ _ _ h h'
theorem thr_hN {a : AS} {s t : Nat} (hs : s < 2) (ht : t < 2) (hE : tn (a 5 s) ≤ 8191) (i : Nat) : hN (gThrow a s) t i = if t = s ∧ i < tn (a 5 s) then 0 else hN a t i := by
  unfold hN gThrow
  by_cases ci : i < 8192
  · rw [if_pos ci, if_pos ci, gThr_18]
    by_cases c : t = s ∧ i < tn (a 5 s)
    · rw [if_pos c, if_pos (by omega)]; rfl
    · rw [if_neg c, if_neg (by omega)]
  · rw [if_neg ci, if_neg ci, ite_self]
theorem SI_thr {n : Nat → Nat} {fl rem l0 l1 : Nat} {a : AS} {s : Nat} (hs : s < 2) (h : SI n fl rem l0 l1 a) : SI n fl rem l0 l1 (gThrow a s) ∧ ∀ i, hN (gThrow a s) s i ≠ 0 → tn (a 5 s) ≤ i := by
  obtain ⟨hv, gL, gb, gt, gG, gz, hD, hp⟩ := h
  obtain ⟨-, ⟨E, e5, hE⟩, -⟩ := hv.2.2 s hs
  have hE8 : tn (a 5 s) ≤ 8191 := by rw [e5, tnI (by omega)]; exact hE
  have r : ∀ k, k ≠ 6 → k ≠ 18 → gThrow a s k = a k := gThrow_r a s
  have r0 := r 0 (by decide) (by decide)
  have r4 := r 4 (by decide) (by decide)
  have r11 := r 11 (by decide) (by decide)
  have eQ : ∀ t, QL (gThrow a s) t = QL a t := fun t => QL_congr (by rw [r 19 (by decide) (by decide)]) (by rw [r 20 (by decide) (by decide)]) (r 21 (by decide) (by decide))
  have hh : ∀ t i, t < 2 → hN (gThrow a s) t i = if t = s ∧ i < tn (a 5 s) then 0 else hN a t i := fun t i ht => thr_hN hs ht hE8 i
  have ers : ∀ t, rsN (gThrow a s) t = rsN a t := fun t => rsN_of (eQ _) r11
  have e4 : ∀ t, lgN (gThrow a s) t = lgN a t := fun t => by unfold lgN; rw [r4]
  refine ⟨⟨?_, gL, gb, gt, gG, gz, fun Y hY => ?_, ?_⟩, fun i hi => ?_⟩
  · refine ⟨by rw [r0]; exact hv.1, by rw [r0]; exact hv.2.1, fun t ht => ?_⟩
    obtain ⟨v1, v2, v3, v4, v5, v6, v7, v8, v9, v10, v11⟩ := hv.2.2 t ht
    unfold svS
    rw [r0, r4, r11, r 5 (by decide) (by decide), r 7 (by decide) (by decide), r 3 (by decide) (by decide), r 19 (by decide) (by decide), r 20 (by decide) (by decide)]
    refine ⟨v1, v2, v3, fun k hk => by rw [r k (by omega) (by omega)]; exact v4 k hk, v5, v6, v7, v8, v9, v10, fun i hi => ?_⟩
    unfold gThrow
    rw [gThr_18]
    split
    · exact ⟨0, rfl, by omega, by omega⟩
    · exact v11 i hi
  · obtain ⟨d1, d2, d3⟩ := hD Y hY
    unfold DI
    rw [eQ, e4, ers, r0, r 5 (by decide) (by decide), r 7 (by decide) (by decide), r 8 (by decide) (by decide), r 3 (by decide) (by decide)]
    refine ⟨d1, ?_, fun h => ⟨fun i => ?_, (d3 h).2⟩⟩
    · by_cases c : Y = s
      · subst c
        refine DK_throw (fun i => ?_) d2
        rw [hh Y i hY]
        by_cases c2 : i < tn (a 5 Y)
        · rw [if_pos ⟨rfl, c2⟩, if_pos c2]
        · rw [if_neg (fun h => c2 h.2), if_neg c2]
      · refine DK_h (fun i => ?_) d2
        rw [hh Y i hY, if_neg (fun h => c h.1)]
    · rw [hh Y i hY]
      split
      · rfl
      · exact (d3 h).1 i
  · have e5' := r 5 (by decide) (by decide)
    obtain ⟨p1, p2, p3, p4⟩ := hp
    have g1 : ∀ t G, gqN (gThrow a s) t G = gqN a t G := fun t G => by unfold gqN; rw [eQ, r 7 (by decide) (by decide)]
    have g2 : ∀ t, etaN (gThrow a s) t = etaN a t := fun t => by unfold etaN; rw [r0, r 7 (by decide) (by decide)]
    have g3 : ∀ k t, k ≠ 6 → k ≠ 18 → quN (gThrow a s) k t = quN a k t := fun k t h h' => by unfold quN; rw [r0, r k h h']
    have g4 : ∀ t, lateN (gThrow a s) t = lateN a t := fun t => by unfold lateN; rw [r0, r 8 (by decide) (by decide)]
    have g5 : laN (gThrow a s) = laN a := by unfold laN lgN kF; rw [r4, r11]
    have g6 : phN fl (gThrow a s) = phN fl a := by
      unfold phN
      rw [r0, r 3 (by decide) (by decide), g3 10 1 (by decide) (by decide), g3 9 1 (by decide) (by decide), g3 10 0 (by decide) (by decide), r 20 (by decide) (by decide), g5, g4]
    have x1 := VH_eq (fl := fl) (a := a) (b := gThrow a s) (G := gG 1) (G' := gG 1) r4 r11 (by rw [e5']) (by rw [r0]) (r 24 (by decide) (by decide)) (r 26 (by decide) (by decide)) (r 27 (by decide) (by decide)) (r 28 (by decide) (by decide)) (r 34 (by decide) (by decide))
    have x2 := VT_le (fl := fl) (a := a) (b := gThrow a s) (G := gG 0) (G' := gG 0) r4 r11 (by rw [e5']) (by rw [g3 9 0 (by decide) (by decide)]; exact Nat.le_refl _) (by rw [g3 10 0 (by decide) (by decide)]; exact Nat.le_refl _) (by rw [g3 10 1 (by decide) (by decide)]; exact Nat.le_refl _) (by rw [g4]; exact Nat.le_refl _)
    rw [g1, g2, g6] at x1
    rw [g1, g2] at x2
    obtain ⟨f1, f2⟩ := VS_eq (fl := fl) (a := a) (b := gThrow a s) r4 r11
    exact ⟨by omega, by omega, by rw [f1]; exact p3, by rw [f2]; exact p4⟩
  · rw [hh s i hs] at hi
    by_cases c : i < tn (a 5 s)
    · rw [if_pos ⟨rfl, c⟩] at hi; exact absurd rfl hi
    · omega
/-- the held one that is expected is taken -/
theorem hd0_18 (a : AS) (s i : Nat) : gHd0 a s 18 i = if i = 8192 * s + tn (a 5 s) then nI 0 else a 18 i := by
  unfold gHd0
  by_cases c : i = 8192 * s + tn (a 5 s)
  · rw [if_pos c, c, up2_n _ _ (by omega), up2_s]
  · rw [if_neg c, up2_n _ _ (by omega), up2_n _ _ (by omega)]
theorem SI_unh {n : Nat → Nat} {fl rem l0 l1 : Nat} {a : AS} {s : Nat} (hs : s < 2) (hh : hN a s (tn (a 5 s)) ≠ 0) (hA : tn (a 7 s) < tn (a 5 s)) (hon : ¬ a 3 s = nI 0) (h : SI n fl rem l0 l1 a) : SI n fl rem (l0 + pay0 a s (tn (a 5 s))) (l1 + pay1 a s (tn (a 5 s))) (up2 (gHd0 a s) 5 s (nI (hx (hN a s (tn (a 5 s))) (tn (a 5 s))))) ∧ hx (hN a s (tn (a 5 s))) (tn (a 5 s)) ≤ 8191 ∧ tn (a 5 s) ≤ lgN a (1 - s) := by
  obtain ⟨hv, gL, gb, gt, gG, gz, hD, hp⟩ := h
  obtain ⟨dq, dk, doff⟩ := hD s hs
  obtain ⟨⟨S, e4, hS⟩, -⟩ := hv.2.2 (1 - s) (by omega)
  have hlg : lgN a (1 - s) = S := by unfold lgN; rw [e4, tnI (by omega)]
  have hgt := hx_gt (hN a s (tn (a 5 s))) (tn (a 5 s))
  obtain ⟨k1, k2, k3, k4, k5, k6, k7⟩ := id dk
  obtain ⟨g1, g2, g3⟩ := k6 _ hh
  have hx8 : hx (hN a s (tn (a 5 s))) (tn (a 5 s)) ≤ 8191 := by omega
  have dk2 := DK_unhold hh dk
  generalize hE' : hx (hN a s (tn (a 5 s))) (tn (a 5 s)) = E' at *
  have r : ∀ k, k ≠ 18 → k ≠ 6 → gHd0 a s k = a k := fun k h h' => by unfold gHd0; simp (disch := omega) only [up2, up1_n]
  have eh : ∀ t i, t < 2 → hN (up2 (gHd0 a s) 5 s (nI E')) t i = if t = s ∧ i = tn (a 5 s) then 0 else hN a t i := fun t i ht => by
    have e18 : up2 (gHd0 a s) 5 s (nI E') 18 = gHd0 a s 18 := rfl
    unfold hN
    rw [e18]
    by_cases ci : i < 8192
    · rw [if_pos ci, if_pos ci, hd0_18]
      by_cases c : t = s ∧ i = tn (a 5 s)
      · rw [if_pos c, if_pos (by omega)]; rfl
      · rw [if_neg c, if_neg (by omega)]
    · rw [if_neg ci, if_neg ci, ite_self]
  have e5 : tn (up2 (gHd0 a s) 5 s (nI E') 5 s) = E' := by rw [up2_s, tnI (by omega)]
  have svb : sv (gHd0 a s) := by
    refine ⟨hv.1, hv.2.1, fun t ht => ?_⟩
    obtain ⟨v1, v2, v3, v4, v5, v6, v7, v8, v9, v10, v11⟩ := hv.2.2 t ht
    refine ⟨v1, v2, v3, fun k hk => by rw [r k (by omega) (by omega)]; exact v4 k hk, v5, v6, v7, v8, v9, v10, fun i hi => ?_⟩
    rw [hd0_18]
    split
    · exact ⟨0, rfl, by omega, by omega⟩
    · exact v11 i hi
  have hp' : pot n fl rem l0 l1 (gHd0 a s) gG := hp
  refine ⟨⟨sv_5 hx8 svb, gL, gb, gt, gG, gz, fun Y hY => ?_, ?_⟩, hx8, by omega⟩
  · by_cases c1 : Y = s
    · subst c1
      refine ⟨?_, ?_, fun h => absurd h hon⟩
      · rw [e5]
        exact DQ_E (show tn (a 7 Y) ≤ tn (a 5 Y) by omega) hgt (Or.inr (show tn (a 7 Y) ≠ tn (a 5 Y) by omega)) dq
      · rw [e5]
        refine DK_h (fun i => ?_) dk2
        rw [eh Y i hY]
        by_cases c2 : i = tn (a 5 Y)
        · rw [if_pos ⟨rfl, c2⟩, if_pos c2]
        · rw [if_neg (fun h => c2 h.2), if_neg c2]
    · have : Y = 1 - s := by omega
      subst this
      obtain ⟨o1, o2, o3⟩ := hD (1 - s) (by omega)
      have eho : ∀ i, hN (gHd0 a s) (1 - s) i = hN a (1 - s) i := fun i => by
        unfold hN
        by_cases ci : i < 8192
        · rw [if_pos ci, if_pos ci, hd0_18]
          have : tn (a 5 s) ≤ 8191 := by omega
          rw [if_neg (by omega)]
        · rw [if_neg ci, if_neg ci]
      have hDo : DI (vB n (1 - s)) (n 0) (n (1 + (1 - s))) (icN fl (1 - s)) (gHd0 a s) (1 - s) (gL (1 - s)) (gb (1 - s)) (gt (1 - s)) (gG (1 - s)) (gz (1 - s)) := ⟨o1, DK_h eho o2, fun h => ⟨fun i => (eho i).trans ((o3 h).1 i), (o3 h).2⟩⟩
      exact DI_5o hs hDo
  · exact pot_5 (a := gHd0 a s) hs k1 hgt hx8 g1 hp'
