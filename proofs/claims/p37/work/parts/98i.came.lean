/-! One that isn't lost comes. -/
theorem gCmA_r (a : AS) (s n f k : Nat) (h : k ≠ 10) (h' : k ≠ 3) : gCmA a s n f k = a k := funext fun i => gCmA_k a s n f k i h h'
theorem gCmA_10 (a : AS) (s n f t : Nat) : gCmA a s n f 10 t = if t = s then a 0 1 else a 10 t := by
  unfold gCmA
  split
  · by_cases c1 : t = s
    · rw [if_pos c1, c1, up2_n _ _ (by omega), up2_s]
    · rw [if_neg c1, up2_n _ _ (by omega), up2_n _ _ (by omega)]
  · by_cases c1 : t = s
    · rw [if_pos c1, c1, up2_s]
    · rw [if_neg c1, up2_n _ _ (by omega)]
theorem gCmA_3 (a : AS) (s n f t : Nat) : gCmA a s n f 3 t = if t = s ∧ f = 0 ∧ a 11 (8192 * (1 - s) + n) = nI 0 then nI 1 else a 3 t := by
  unfold gCmA
  by_cases c : f = 0 ∧ a 11 (8192 * (1 - s) + n) = nI 0
  · rw [if_pos c]
    by_cases c1 : t = s
    · rw [if_pos ⟨c1, c⟩, c1, up2_s]
    · rw [if_neg (fun h => c1 h.1), up2_n _ _ (by omega), up2_n _ _ (by omega)]
  · rw [if_neg c, if_neg (fun h => c h.2), up2_n _ _ (by omega)]
theorem svS_came {a : AS} {s n f t : Nat} (hT : ∃ T : Nat, a 0 1 = nI T ∧ T ≤ 30000) (hup : a 0 2 ≠ nI 0) (h : svS a t) : svS (gCmA a s n f) t := by
  obtain ⟨v1, v2, v3, v4, v5, v6, v7, v8, v9, v10, v11⟩ := h
  have r : ∀ k, k ≠ 10 → k ≠ 3 → gCmA a s n f k = a k := fun k h h' => gCmA_r a s n f k h h'
  obtain ⟨T, eT, hT⟩ := hT
  unfold svS
  rw [r 4 (by decide) (by decide), r 5 (by decide) (by decide), r 7 (by decide) (by decide), r 0 (by decide) (by decide), r 11 (by decide) (by decide), r 18 (by decide) (by decide), r 19 (by decide) (by decide), r 20 (by decide) (by decide), gCmA_3]
  refine ⟨v1, v2, v3, fun k hk => ?_, v5, v6, ?_, fun hd => absurd hd hup, fun _ => hup, v10, v11⟩
  · by_cases c : k = 10
    · subst c
      rw [gCmA_10]
      by_cases c1 : t = s
      · rw [if_pos c1]; exact ⟨T, eT, by rw [eT, tnI (by omega)]; exact Nat.le_refl _⟩
      · rw [if_neg c1]; exact v4 10 (by omega)
    · rw [r k c (by omega)]
      exact v4 k hk
  · split
    · exact Or.inr rfl
    · exact v7
theorem phX_came0 {u o1 o0 o0' dH eH dT q0 q0' la v : Nat} (hu : u ≠ 0) (hq : q0' + 1 ≤ q0) : phX 1 u o1 o0' dH eH 0 q0' la v ≤ phX 1 u o1 o0 dH eH dT q0 la v := by
  have := tst_t0 dH dT
  unfold phX phs
  simp only [if_neg (show ¬ (1 : Nat) = 2 by decide), if_pos hu]
  by_cases c : o1 ≠ 0
  · simp only [if_pos c]; omega
  · simp only [if_neg c]
    split <;> split <;> omega
theorem phX_came1 {u o1 o1' o0 dH eH dT q0 la v : Nat} (hu : u ≠ 0) (h1 : o1' ≠ 0) : phX 2 u o1' o0 0 eH dT q0 la v ≤ phX 2 u o1 o0 dH eH dT q0 la v := by
  have t0 := tst_0 0 dT
  have w0 := own_0 eH
  have h5 : phX 2 u o1' o0 0 eH dT q0 la v ≤ 6 := by
    unfold phX
    rw [if_pos rfl, if_pos ⟨h1, rfl⟩]
    split <;> omega
  by_cases c : o1 ≠ 0 ∧ dH = 0
  · obtain ⟨c1, rfl⟩ := c
    unfold phX
    simp only [if_true]
    rw [if_pos (show o1' ≠ 0 ∧ True from ⟨h1, trivial⟩), if_pos (show o1 ≠ 0 ∧ True from ⟨c1, trivial⟩)]
    exact Nat.le_refl _
  · refine Nat.le_trans h5 ?_
    unfold phX
    rw [if_pos rfl, if_neg c]
    unfold phs
    simp only [if_pos hu]
    split
    · omega
    · split <;> split <;> omega
theorem tn0 {x : Int32} (h : ¬ x < 0) : tn x = 0 ↔ x = nI 0 := ⟨fun e => by rw [← nIs h, e], fun e => by rw [e]; rfl⟩
theorem nn01 {x : Int32} (h : x = nI 0 ∨ x = nI 1) : ¬ x < 0 := by rcases h with h | h <;> rw [h] <;> decide
theorem SI_in {n : Nat → Nat} {fl rem l0 l1 : Nat} {a : AS} {s : Nat} (hs : s < 2) (hfl : fl = 1 + s) (h1 : 1 ≤ tn (a 20 s)) (hin : isIn a s) (h : SI n fl rem l0 l1 a) : SIp n fl rem l0 l1 (gCmA (gPop a s) s (cEn (wyE a s)) (cEf (wyE a s))) s (wyE a s) (if cEf (wyE a s) = 0 ∧ kF a (1 - s) (cEn (wyE a s)) = 3 then 1 else 0) := by
  obtain ⟨hv, gL, gb, gt, gG, gz, hD, hp⟩ := h
  obtain ⟨q1, q2⟩ := QL_pop hs h1
  have hup := upN hv hs h1
  generalize hc : wyE a s = c at q1
  obtain ⟨hg, hon⟩ := hin
  rw [hc] at hg hon
  generalize hb : gCmA (gPop a s) s (cEn c) (cEf c) = b
  have r : ∀ k, k ≠ 19 → k ≠ 20 → k ≠ 10 → k ≠ 3 → b k = a k := fun k h1 h2 h3 h4 => by rw [← hb, gCmA_r _ _ _ _ _ h3 h4, gPop_r _ _ _ h1 h2]
  have e10 : ∀ t, b 10 t = if t = s then a 0 1 else a 10 t := fun t => by rw [← hb, gCmA_10, gPop_r _ _ 0 (by decide) (by decide), gPop_r _ _ 10 (by decide) (by decide)]
  have e3 : ∀ t, b 3 t = if t = s ∧ cEf c = 0 ∧ a 11 (8192 * (1 - s) + cEn c) = nI 0 then nI 1 else a 3 t := fun t => by rw [← hb, gCmA_3, gPop_r _ _ 11 (by decide) (by decide), gPop_r _ _ 3 (by decide) (by decide)]
  have e20 : ∀ t, b 20 t = gPop a s 20 t := fun t => by rw [← hb, gCmA_r _ _ _ _ 20 (by decide) (by decide)]
  have eQ : ∀ t, QL b t = QL (gPop a s) t := fun t => by rw [← hb]; exact QL_congr (by rw [gCmA_r _ _ _ _ 19 (by decide) (by decide)]) (by rw [gCmA_r _ _ _ _ 20 (by decide) (by decide)]) (gCmA_r _ _ _ _ 21 (by decide) (by decide))
  have hDs := hD s hs
  have hDo := hD (1 - s) (by omega)
  unfold DI at hDs hDo
  rw [q1] at hDs
  obtain ⟨dq, dk, doff⟩ := hDs
  obtain ⟨b', pq, p3, p4, p5, p6⟩ := DQ_pop dq
  have r0 := r 0 (by decide) (by decide) (by decide) (by decide)
  have r4 := r 4 (by decide) (by decide) (by decide) (by decide)
  have r5 := r 5 (by decide) (by decide) (by decide) (by decide)
  have r7 := r 7 (by decide) (by decide) (by decide) (by decide)
  have r8 := r 8 (by decide) (by decide) (by decide) (by decide)
  have r9 := r 9 (by decide) (by decide) (by decide) (by decide)
  have r11 := r 11 (by decide) (by decide) (by decide) (by decide)
  have r18 := r 18 (by decide) (by decide) (by decide) (by decide)
  have e4 : ∀ t, lgN b t = lgN a t := fun t => by unfold lgN; rw [r4]
  have eh : ∀ t n, hN b t n = hN a t n := fun t n => by unfold hN; rw [r18]
  have ers : rsN b s = rsN a s := rsN_of ((eQ _).trans q2) r11
  have hon3 : ¬ b 3 s = nI 0 := by
    rw [e3]
    by_cases c1 : cEf c = 0 ∧ a 11 (8192 * (1 - s) + cEn c) = nI 0
    · rw [if_pos ⟨rfl, c1⟩]; decide
    · rw [if_neg (fun h => c1 h.2)]
      exact hon.resolve_right c1
  have ero : rsN b (1 - s) + (if cEf c = 0 ∧ kF a (1 - s) (cEn c) = 3 then 1 else 0) ≤ rsN a (1 - s) := by
    unfold rsN
    rw [show 1 - (1 - s) = s by omega, q1, eQ]
    show cntL (isR b (1 - s)) (QL (gPop a s) s) + _ ≤ (if isR a (1 - s) c = true then 1 else 0) + cntL (isR a (1 - s)) (QL (gPop a s) s)
    have e1 : cntL (isR b (1 - s)) (QL (gPop a s) s) = cntL (isR a (1 - s)) (QL (gPop a s) s) := by unfold isR kF; rw [r11]
    have e2 : isR a (1 - s) c = true ↔ (cEf c = 0 ∧ kF a (1 - s) (cEn c) = 3) := by unfold isR; simp
    rw [e1]
    simp only [e2]
    omega
  have hT := hv.1
  have svb : sv b := by
    obtain ⟨h2, h3, h4⟩ := sv_pop (s := s) h1 hv
    have hup' : gPop a s 0 2 ≠ nI 0 := by rw [gPop_r _ _ 0 (by decide) (by decide)]; exact hup
    rw [← hb]
    refine ⟨?_, ?_, fun t ht => svS_came h2 hup' (h4 t ht)⟩
    · rw [gCmA_r _ _ _ _ 0 (by decide) (by decide)]; exact h2
    · rw [gCmA_r _ _ _ _ 0 (by decide) (by decide)]; exact h3
  refine ⟨svb, hon3, by rw [e10, if_pos rfl, r0], by rw [r0]; exact hup, fun Y => if Y = s then popL (gL s) else gL Y, fun Y => if Y = s then b' else gb Y, gt, gG, gz, ?_, ?_, ?_, ?_, ?_, ?_, ?_, ?_⟩
  · simp only [if_true]
    rw [ers, e4, r5, r7, r8, r0, eQ]
    exact pq
  · rw [e4, r5, r7, eQ]
    exact DK_h (eh s) dk
  · simp only [if_true]; exact p3
  · simp only [if_true]; rw [r5, r7]; exact p4
  · rw [e4]; exact p5
  · rw [e4, eQ]; exact p6
  · have hne : ¬ 1 - s = s := by omega
    simp only [if_neg hne]
    have e3o : b 3 (1 - s) = a 3 (1 - s) := by rw [e3, if_neg (fun h => hne h.1)]
    unfold DIr
    rw [eQ, q2, e4, r5, r7, r8, r0, e3o]
    exact ⟨DQ_r ero hDo.1, DK_h (eh _) hDo.2.1, fun h => ⟨fun n => (eh _ n).trans ((hDo.2.2 h).1 n), (hDo.2.2 h).2⟩⟩
  · obtain ⟨p1, p2, p3', p4'⟩ := hp
    obtain ⟨f1, f2⟩ := VS_eq (fl := fl) (a := a) (b := b) r4 r11
    have e7 : ∀ t G, gqN b t G = gqN a t G := fun t G => by
      unfold gqN
      rw [r7, eQ]
      by_cases c1 : t = s
      · rw [c1, q1]
        show _ = ((if isG c = true then 1 else 0) + cntL isG (QL (gPop a s) s)) + _
        rw [if_neg (fun h => by have := isG_c.mp h; omega)]
        omega
      · by_cases ht : t < 2
        · have : t = 1 - s := by omega
          rw [this, q2]
        · have : QL (gPop a s) t = QL a t := QL_congr (by unfold gPop; rw [up2_n _ _ (by omega), up2_n _ _ (by omega)]) (by unfold gPop; rw [up2_n _ _ (by omega), up2_n _ _ (by omega)]) (gPop_r _ _ _ (by decide) (by decide))
          rw [this]
    have eeta : ∀ t, etaN b t = etaN a t := fun t => by unfold etaN; rw [r0, r7]
    have elt : ∀ t, lateN b t = lateN a t := fun t => by unfold lateN; rw [r0, r8]
    have ela : laN b = laN a := by unfold laN lgN kF; rw [r4, r11]
    have eq9 : ∀ t, quN b 9 t = quN a 9 t := fun t => by unfold quN; rw [r0, r9]
    have eq10 : ∀ t, quN b 10 t = if t = s then 0 else quN a 10 t := fun t => by
      unfold quN
      rw [r0, e10]
      split
      · exact Nat.sub_self _
      · rfl
    have hu : tn (a 0 2) ≠ 0 := fun h => hup ((tn0 (nn01 hv.2.1)).mp h)
    have o31 : tn (b 3 s) ≠ 0 := fun h => hon3 ((tn0 (nn01 (svb.2.2 s hs).2.2.2.2.2.2.1)).mp h)
    have eph : phN fl b ≤ phN fl a := by
      unfold phN
      rw [r0, eq10, eq10, eq9, ela, elt]
      rcases (show s = 0 ∨ s = 1 by omega) with rfl | rfl
      · subst hfl
        have e31 : b 3 1 = a 3 1 := by rw [e3, if_neg (fun h => absurd h.1 (by decide))]
        rw [if_neg (show ¬ (1 : Nat) = 0 by decide), if_pos rfl, e31]
        refine phX_came0 hu ?_
        rw [e20, pop_20s h1]
        exact Nat.le_refl _
      · subst hfl
        have e30 : b 3 0 = a 3 0 := by rw [e3, if_neg (fun h => absurd h.1 (by decide))]
        have e200 : b 20 0 = a 20 0 := by rw [e20]; unfold gPop; rw [up2_n _ _ (by decide), up2_n _ _ (by decide)]
        rw [if_pos rfl, if_neg (show ¬ (0 : Nat) = 1 by decide), e30, e200]
        exact phX_came1 hu o31
    have x1 := VH_eq (fl := fl) (a := a) (b := b) (G := gG 1) (G' := gG 1) r4 r11 (by rw [r5]) (by rw [r0]) (r 24 (by decide) (by decide) (by decide) (by decide)) (r 26 (by decide) (by decide) (by decide) (by decide)) (r 27 (by decide) (by decide) (by decide) (by decide)) (r 28 (by decide) (by decide) (by decide) (by decide)) (r 34 (by decide) (by decide) (by decide) (by decide))
    have x2 := VT_le (fl := fl) (a := a) (b := b) (G := gG 0) (G' := gG 0) r4 r11 (by rw [r5]) (by rw [eq9]; exact Nat.le_refl _) (by
        rw [eq10]
        by_cases c1 : 0 = s
        · rw [if_pos (show fl = 1 ∨ _ from Or.inl (by omega)), if_pos (show fl = 1 ∨ _ from Or.inl (by omega))]; exact Nat.le_refl _
        · rw [if_neg c1]; exact Nat.le_refl _) (by
        rw [eq10]
        by_cases c1 : 1 = s
        · rw [if_pos (show fl = 2 ∨ _ from Or.inl (by omega)), if_pos (show fl = 2 ∨ _ from Or.inl (by omega))]; exact Nat.le_refl _
        · rw [if_neg c1]; exact Nat.le_refl _) (by rw [elt]; exact Nat.le_refl _)
    rw [eeta, e7] at x1 x2
    exact ⟨by omega, by omega, by rw [f1]; exact p3', by rw [f2]; exact p4'⟩
