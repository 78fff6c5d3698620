/-! The side asks; the expected one is taken; what is held is thrown away. -/
theorem up7_r (a : AS) (s : Nat) (x y : Int32) (k : Nat) (h : k ≠ 7) (h' : k ≠ 8) : up2 (up2 a 7 s x) 8 s y k = a k := by
  simp (disch := omega) only [up2, up1_n]
theorem ask_9 {a : AS} {s : Nat} {o1 o2 o3 o4 : Int32} (hup : a 0 2 ≠ nI 0) : gSends (up2 (up2 a 7 s (a 5 s)) 8 s (a 0 1)) s (nI 3) o1 o2 o3 o4 = gSends (up2 (up2 (up2 a 9 s (a 0 1)) 7 s (a 5 s)) 8 s (a 0 1)) s (nI 3) o1 o2 o3 o4 := by
  have hk : ∀ k, k ≠ 9 → up2 (up2 a 7 s (a 5 s)) 8 s (a 0 1) k = up2 (up2 (up2 a 9 s (a 0 1)) 7 s (a 5 s)) 8 s (a 0 1) k := by
    refine up2_c (up2_c (fun k hk => ?_))
    simp (disch := omega) only [up2, up1_n]
  funext k i
  by_cases c : k = 9 ∧ i ≠ s
  · obtain ⟨rfl, ci⟩ := c
    rw [snd_9, snd_9, if_neg (fun h => ci h.1), if_neg (fun h => ci h.1), up7_r _ _ _ _ 9 (by decide) (by decide), up7_r _ _ _ _ 9 (by decide) (by decide), up2_n _ _ (by omega)]
  · exact gSends_9 hk hup k i c
theorem sv_touch {a : AS} {s : Nat} (hup : a 0 2 ≠ nI 0) (h : sv a) : sv (up2 (up2 (up2 a 9 s (a 0 1)) 7 s (a 5 s)) 8 s (a 0 1)) := by
  obtain ⟨⟨T, eT, hT⟩, h2, h3⟩ := h
  refine ⟨⟨T, eT, hT⟩, h2, fun t ht => ?_⟩
  obtain ⟨v1, v2, ⟨A, v3, v3'⟩, v4, v5, v6, v7, v8, v9, v10, v11⟩ := h3 t ht
  have e9 : up2 (up2 (up2 a 9 s (a 0 1)) 7 s (a 5 s)) 8 s (a 0 1) 9 t = if t = s then a 0 1 else a 9 t := by
    rw [up7_r _ _ _ _ 9 (by decide) (by decide)]
    by_cases c : t = s
    · rw [if_pos c, c, up2_s]
    · rw [if_neg c, up2_n _ _ (by omega)]
  have e8 : up2 (up2 (up2 a 9 s (a 0 1)) 7 s (a 5 s)) 8 s (a 0 1) 8 t = if t = s then a 0 1 else a 8 t := by
    by_cases c : t = s
    · rw [if_pos c, c, up2_s]
    · rw [if_neg c, up2_n _ _ (by omega), up2_n _ _ (by omega), up2_n _ _ (by omega)]
  have e7 : up2 (up2 (up2 a 9 s (a 0 1)) 7 s (a 5 s)) 8 s (a 0 1) 7 t = if t = s then a 5 s else a 7 t := by
    by_cases c : t = s
    · rw [if_pos c, c, up2_n _ _ (by omega), up2_s]
    · rw [if_neg c, up2_n _ _ (by omega), up2_n _ _ (by omega), up2_n _ _ (by omega)]
  have hT2 : ∃ v : Nat, a 0 1 = nI v ∧ v ≤ tn (a 0 1) := ⟨T, eT, by rw [eT, tnI (by omega)]; exact Nat.le_refl _⟩
  refine ⟨v1, v2, ?_, fun k hk => ?_, v5, v6, v7, fun hd => absurd hd hup, v9, v10, v11⟩
  · rw [e7]
    split
    · rename_i c
      obtain ⟨E, g1, g2⟩ := v2
      exact ⟨E, by rw [← c]; exact g1, g2⟩
    · exact ⟨A, v3, v3'⟩
  · rcases hk with rfl | rfl | rfl
    · rw [e8]
      split
      · exact hT2
      · exact v4 8 (by omega)
    · rw [e9]
      split
      · exact hT2
      · exact v4 9 (by omega)
    · exact v4 10 (by omega)
theorem cntL_A {A E : Nat} (h : A ≤ E) (G : List Nat) : cntL (fun g => decide (E < g)) G ≤ cntL (fun g => decide (A < g)) G := cntL_imp (fun c _ hc => by
  have := of_decide_eq_true hc
  exact decide_eq_true (by omega))
theorem SI_ask {n : Nat → Nat} {fl rem l0 l1 : Nat} {a : AS} {s : Nat} {gL : Nat → List (List Nat)} {gb gt : Nat → Nat} {gG : Nat → List Nat} {gz : Nat → Nat} (hs : s < 2) (hfl : fl = 1 + s) (hn : sm8 n ≤ 512) (hO : n 4 ≤ 40) (hv : sv a) (hon : ¬ a 3 s = nI 0) (h10 : tn (a 10 s) = tn (a 0 1)) (hup : a 0 2 ≠ nI 0)
    (hD : ∀ Y, Y < 2 → DI (vB n Y) (n 0) (n (1 + Y)) (icN fl Y) a Y (gL Y) (gb Y) (gt Y) (gG Y) (gz Y)) (hp : pot n fl rem l0 l1 a gG) (hh : ∀ l R, gL s = l :: R → ∀ c', c' ∈ l → tn (a 5 s) < cEn c') (hG : tn (a 5 s) ∈ gG s ∨ tn (a 5 s) = gz s) (hE : tn (a 5 s) ≤ lgN a (1 - s)) (hw : tn (a 7 s) ≠ tn (a 5 s) ∨ tn (a 8 s) + 5 ≤ tn (a 0 1)) :
    SI n fl rem l0 l1 (gSends (up2 (up2 a 7 s (a 5 s)) 8 s (a 0 1)) s (nI 3) (a 5 s) (nI 0) (nI 0) (nI 0)) := by
  rw [ask_9 hup]
  have hSI : SI n fl rem l0 l1 a := ⟨hv, gL, gb, gt, gG, gz, hD, hp⟩
  have hr := SI_room hSI hn hO
  obtain ⟨⟨S, e4, hS⟩, ⟨E, e5, hE'⟩, ⟨A, e7, hA'⟩, v4, -⟩ := hv.2.2 s hs
  obtain ⟨AT, e8, hAT⟩ := v4 8 (by omega)
  have h1 := (hr s hs).1
  have h2 := (hr (1 - s) (by omega)).2
  have h3 := (hr (1 - s) (by omega)).1
  have hlg : lgN a s = S := by unfold lgN; rw [e4, tnI (by omega)]
  rw [hlg] at h1
  have es : 1 - (1 - s) = s := by omega
  have hqs := DI_q (hD s hs)
  have hqo := DI_q (hD (1 - s) (by omega))
  rw [es, hlg] at hqo
  obtain ⟨k1, k2, k3, k4, k5, k6, k7⟩ := (hD s hs).2.1
  have hAE : tn (a 7 s) ≤ tn (a 5 s) := by omega
  have hic : icN fl s = 1 := by unfold icN; rw [if_pos ⟨hfl, hs⟩]
  have hic0 : icN fl s = 1 := hic
  -- direction to s
  obtain ⟨tb', hO'⟩ := DI_askO (a := up2 a 9 s (a 0 1)) (kd := nI 3) (o1 := a 5 s) (o2 := nI 0) (o3 := nI 0) (o4 := nI 0) hs e4 (by omega) (by show tn (a 20 (1 - s)) < 65536; omega) hqo hE (by rw [show up2 a 9 s (a 0 1) 8 s = a 8 s from rfl, e8, tnI (by have := tn_lt (a 0 1); omega)]; exact hAT) hic hw hh hon (hD s hs)
  have hO2 : DI (vB n s) (n 0) (n (1 + s)) (icN fl s) (gSends (up2 (up2 (up2 a 9 s (a 0 1)) 7 s (a 5 s)) 8 s (a 0 1)) s (nI 3) (a 5 s) (nI 0) (nI 0) (nI 0)) s (gL s) 0 tb' (gG s) (gz s) := hO'
  generalize ha2 : up2 (up2 (up2 a 9 s (a 0 1)) 7 s (a 5 s)) 8 s (a 0 1) = a2 at hO2 ⊢
  have r : ∀ k, k ≠ 7 → k ≠ 8 → k ≠ 9 → a2 k = a k := fun k c1 c2 c3 => by rw [← ha2, up7_r _ _ _ _ _ c1 c2]; simp (disch := omega) only [up2, up1_n]
  have f7 : ∀ t, a2 7 t = if t = s then a 5 s else a 7 t := fun t => by
    rw [← ha2]
    by_cases c : t = s
    · rw [if_pos c, c, up2_n _ _ (by omega), up2_s]
    · rw [if_neg c, up2_n _ _ (by omega), up2_n _ _ (by omega), up2_n _ _ (by omega)]
  have f8 : ∀ t, a2 8 t = if t = s then a 0 1 else a 8 t := fun t => by
    rw [← ha2]
    by_cases c : t = s
    · rw [if_pos c, c, up2_s]
    · rw [if_neg c, up2_n _ _ (by omega), up2_n _ _ (by omega), up2_n _ _ (by omega)]
  have f9 : ∀ t, a2 9 t = if t = s then a 0 1 else a 9 t := fun t => by
    rw [← ha2, up7_r _ _ _ _ 9 (by decide) (by decide)]
    by_cases c : t = s
    · rw [if_pos c, c, up2_s]
    · rw [if_neg c, up2_n _ _ (by omega)]
  have hv2 : sv a2 := by rw [← ha2]; exact sv_touch hup hv
  have r0 := r 0 (by decide) (by decide) (by decide)
  have r3 := r 3 (by decide) (by decide) (by decide)
  have r4 := r 4 (by decide) (by decide) (by decide)
  have r5 := r 5 (by decide) (by decide) (by decide)
  have r11 := r 11 (by decide) (by decide) (by decide)
  have r10 := r 10 (by decide) (by decide) (by decide)
  have r20 := r 20 (by decide) (by decide) (by decide)
  have eQ : ∀ t, QL a2 t = QL a t := fun t => QL_congr (by rw [r 19 (by decide) (by decide) (by decide)]) (by rw [r20]) (r 21 (by decide) (by decide) (by decide))
  have hne : ¬ 1 - s = s := by omega
  -- direction to the other side
  have hDo2 : DI (vB n (1 - s)) (n 0) (n (1 + (1 - s))) (icN fl (1 - s)) a2 (1 - s) (gL (1 - s)) (gb (1 - s)) (gt (1 - s)) (gG (1 - s)) (gz (1 - s)) := DIr_of (r := rsN a (1 - s)) (Nat.le_of_eq (rsN_of (eQ _) r11)) (eQ _) r4 (by rw [r5]) (by rw [f7, if_neg hne]) (by rw [f8, if_neg hne]) (by rw [r0]) (r 18 (by decide) (by decide) (by decide)) (by rw [r3]) (hD (1 - s) (by omega))
  have e42 : a2 4 s = nI S := by rw [r4]; exact e4
  obtain ⟨L', hX⟩ := DI_sendX (kd := nI 3) (o1 := a 5 s) (o2 := nI 0) (o3 := nI 0) (o4 := nI 0) hs e42 (by omega) (by rw [r20]; omega) (by rw [r0]; exact fun h => absurd h hup) (fun c hc => by rw [eQ] at hc; exact ⟨(hqs c hc).1, by have := (hqs c hc).2; omega⟩) hDo2
  refine ⟨sv_send hs e42 (by omega) (by rw [r20]; omega) (by omega) hv2, fun Y => if Y = s then gL Y else L', fun Y => if Y = s then 0 else gb Y, fun Y => if Y = s then tb' else gt Y, gG, gz, fun Y hY => ?_, ?_⟩
  · by_cases c : Y = s
    · subst c
      simp only [if_true]
      exact hO2
    · have : Y = 1 - s := by omega
      subst this
      simp only [if_neg c]
      exact hX
  -- the potentials
  obtain ⟨p1, p2, p3, p4⟩ := hp
  have hT : tn (a 10 s) = tn (a 0 1) := h10
  have e7q : ∀ t G, gqN a2 t G = cntL isG (QL a t) + cntL (fun g => decide ((if t = s then tn (a 5 s) else tn (a 7 t)) < g)) G := fun t G => by
    unfold gqN
    rw [eQ, f7]
    by_cases c : t = s
    · rw [if_pos c, if_pos c]
    · rw [if_neg c, if_neg c]
  have eeta : ∀ t, etaN a2 t = if t = s then 0 else etaN a t := fun t => by
    unfold etaN
    rw [r0, f7]
    by_cases c : t = s
    · rw [if_pos c, if_pos c, if_neg (fun h => by have := h.2; omega)]
    · rw [if_neg c, if_neg c]
  have eq10 : ∀ t, quN a2 10 t = quN a 10 t := fun t => by unfold quN; rw [r0, r10]
  have eq9 : ∀ t, quN a2 9 t = if t = s then 0 else quN a 9 t := fun t => by
    unfold quN
    rw [r0, f9]
    split
    · exact Nat.sub_self _
    · rfl
  have elt : ∀ t, lateN a2 t = if t = s then 0 else lateN a t := fun t => by
    unfold lateN
    rw [r0, f8]
    by_cases c : t = s
    · rw [if_pos c, if_pos c, if_neg (Nat.lt_irrefl _)]
    · rw [if_neg c, if_neg c]
  have ela : laN a2 = laN a := by unfold laN lgN kF; rw [r4, r11]
  have q10 : quN a 10 s = 0 := by unfold quN; omega
  have hlate : lateN a s = 1 ∨ (tn (a 7 s) ≠ tn (a 5 s)) := by
    rcases hw with h | h
    · exact Or.inr h
    · left; unfold lateN; rw [if_pos (by omega)]
  -- what asking costs is there
  have hpay : gqN a2 s (gG s) + etaN a2 s + 1 ≤ gqN a s (gG s) + etaN a s + (if tn (a 7 s) ≠ tn (a 5 s) then 0 else 1) := by
    rw [e7q, eeta, if_pos rfl, if_pos rfl]
    unfold gqN
    by_cases c : tn (a 7 s) ≠ tn (a 5 s)
    · rw [if_pos c]
      rcases hG with hG | hG
      · have := cntL_lt (p := fun g => decide (tn (a 5 s) < g)) (p' := fun g => decide (tn (a 7 s) < g)) (x := tn (a 5 s)) (decide_eq_false (Nat.lt_irrefl _)) (decide_eq_true (by omega)) (q := gG s) (fun c' _ hc' => by have := of_decide_eq_true hc'; exact decide_eq_true (by omega)) hG
        omega
      · have h0 : tn (a 7 s) = 0 := by omega
        have he : etaN a s = 1 := by unfold etaN; rw [if_pos ⟨hup, h0⟩]
        have := cntL_A hAE (gG s)
        omega
    · rw [if_neg c]
      have := cntL_A hAE (gG s)
      omega
  have e4' : ∀ t, lgN a2 t = lgN a t := fun t => by unfold lgN; rw [r4]
  have hc2 : tn (a2 20 (1 - s)) < 65536 := by rw [r20]; omega
  have x1 := VH_eq (fl := fl) (a := a) (b := a2) (G := gG 1) (G' := gG 1) r4 r11 (by rw [r5]) (by rw [r0]) (r 24 (by decide) (by decide) (by decide)) (r 26 (by decide) (by decide) (by decide)) (r 27 (by decide) (by decide) (by decide)) (r 28 (by decide) (by decide) (by decide)) (r 34 (by decide) (by decide) (by decide))
  obtain ⟨f1, f2⟩ := VS_eq (fl := fl) (a := a) (b := a2) r4 r11
  have h0' : lgN a 0 ≤ 3000 := (hr 0 (by decide)).1
  have h1' : lgN a 1 ≤ 3000 := (hr 1 (by decide)).1
  rcases (show s = 0 ∨ s = 1 by omega) with rfl | rfl
  · obtain rfl : fl = 1 := by omega
    have g1 : gqN a2 1 (gG 1) = gqN a 1 (gG 1) := by rw [e7q]; rfl
    have g2 : etaN a2 1 = etaN a 1 := eeta 1
    have g3 : phN 1 a2 = phN 1 a := by
      unfold phN
      rw [r0, r3, eq10, eq10, eq9, elt, ela, r20]
      rfl
    have y1 := VH_send0 (fl := 1) (G := gG 1) (kd := nI 3) (o1 := a 5 0) (o2 := nI 0) (o3 := nI 0) (o4 := nI 0) e42 (by omega) hc2 (by rw [e4']; omega)
    rw [tnI (by decide), if_neg (by decide), if_neg (by decide)] at y1
    have y2 := (VT_send0 (fl := 1) (G := gG 0) (kd := nI 3) (o1 := a 5 0) (o2 := nI 0) (o3 := nI 0) (o4 := nI 0) e42 (by omega) hc2 (by rw [e4']; omega)).1
    have y3 := (VS_send (fl := 1) (kd := nI 3) (o1 := a 5 0) (o2 := nI 0) (o3 := nI 0) (o4 := nI 0) (show 0 < 2 by decide) e42 (by omega) (by rw [e4']; omega)).2.1 rfl (by rw [tnI (by decide)]; decide) (Or.inl rfl)
    have x2 : VT 1 a2 (gG 0) + 10 ≤ VT 1 a (gG 0) := by
      have hk : pnd isT (kF a2 1) (tn (a2 5 0)) (lgN a2 1) = pnd isT (kF a 1) (tn (a 5 0)) (lgN a 1) := by rw [e4', r5]; unfold kF; rw [r11]
      unfold VT
      rw [hk, e4', eq9, eq10, eq10, elt, if_pos (rfl : (0 : Nat) = 0), if_pos (rfl : (0 : Nat) = 0)]
      simp only [if_true]
      have : (if tn (a 7 0) ≠ tn (a 5 0) then 0 else 1) ≤ lateN a 0 := by
        split
        · exact Nat.zero_le _
        · rename_i c
          rcases hlate with h | h
          · omega
          · exact absurd h c
      omega
    exact ⟨by omega, by omega, by have := y3.1; omega, by rw [y3.2, f2]; exact p4⟩
  · obtain rfl : fl = 2 := by omega
    have g1 : gqN a2 0 (gG 0) = gqN a 0 (gG 0) := by rw [e7q]; rfl
    have g2 : etaN a2 0 = etaN a 0 := eeta 0
    have o31 : tn (a 3 1) ≠ 0 := fun h => hon ((tn0 (nn01 (hv.2.2 1 hs).2.2.2.2.2.2.1)).mp h)
    have g3 : phN 2 a2 + (if tn (a 7 1) ≠ tn (a 5 1) then 0 else 1) ≤ phN 2 a := by
      unfold phN phX
      rw [r0, r3, eq10, eq10, eq9, elt, ela, r20, q10]
      simp only [if_true]
      rw [if_pos (show tn (a 3 1) ≠ 0 ∧ True from ⟨o31, trivial⟩), if_pos (show tn (a 3 1) ≠ 0 ∧ True from ⟨o31, trivial⟩), if_neg (by decide), own_00]
      have : 2 ≤ (if lateN a 1 = 1 then 3 else own 0 (quN a 9 1)) := by
        split
        · decide
        · unfold own
          rw [if_neg (by decide), if_pos (by omega)]
          omega
      by_cases c : tn (a 7 1) ≠ tn (a 5 1)
      · rw [if_pos c]; omega
      · rw [if_neg c]
        rcases hlate with h | h
        · rw [if_pos h]; omega
        · exact absurd h c
    have hu2 : a2 0 2 ≠ nI 0 := by rw [r0]; exact hup
    have y1 := (VH_send1 (fl := 2) (G := gG 1) (kd := nI 3) (o1 := a 5 1) (o2 := nI 0) (o3 := nI 0) (o4 := nI 0) e42 (by omega) hc2 (by rw [e4']; omega) (fun _ => hu2) (nn01 (hv2.2.2 1 (by decide)).2.2.2.2.2.2.1) (nn01 hv2.2.1)).2.1 (by rw [tnI (by decide)]; decide) (by rw [r3]; exact hon)
    have y2 := VT_send1 (fl := 2) (G := gG 0) (kd := nI 3) (o1 := a 5 1) (o2 := nI 0) (o3 := nI 0) (o4 := nI 0) e42 (by omega) hc2
    rw [tnI (by decide), if_neg (by decide)] at y2
    have y3 := (VS_send (fl := 2) (kd := nI 3) (o1 := a 5 1) (o2 := nI 0) (o3 := nI 0) (o4 := nI 0) (show 1 < 2 by decide) e42 (by omega) (by rw [e4']; omega)).1 rfl
    have x2 := VT_le (fl := 2) (a := a) (b := a2) (G := gG 0) (G' := gG 0) r4 r11 (by rw [r5]) (by rw [eq9]; exact Nat.le_refl _) (by rw [eq10]; exact Nat.le_refl _) (by rw [eq10]; exact Nat.le_refl _) (by rw [elt]; exact Nat.le_refl _)
    exact ⟨by omega, by omega, by rw [y3.1, f1]; exact p3, by rw [y3.2, f2]; exact p4⟩
/-- one ahead: held, and asked for -/
theorem SIp_asks {n : Nat → Nat} {fl rem l0 l1 : Nat} {a : AS} {s c : Nat} (hs : s < 2) (hfl : fl = 1 + s) (hn : sm8 n ≤ 512) (hO : n 4 ≤ 40) (hc : tn (a 5 s) < cEn c) (hz : hN a s (tn (a 5 s)) = 0) (h : SIp n fl rem l0 l1 a s c 0) : SI n fl rem l0 l1 (gAsk (gHold a s (cEn c) (cEf c)) s) := by
  obtain ⟨hS, gL, gb, gt, gG, gz, hD, hp, hh, hG, hE⟩ := SIp_hold hs hc hz h
  obtain ⟨hv, hon, h10, hup, -⟩ := h
  have r : ∀ k, k ≠ 18 → k ≠ 6 → gHold a s (cEn c) (cEf c) k = a k := gHold_r a s (cEn c) (cEf c)
  generalize hb : gHold a s (cEn c) (cEf c) = b at *
  unfold gAsk
  by_cases ca : b 7 s = b 5 s ∧ b 0 1 - b 8 s < nI 5
  · rw [if_pos ca]; exact hS
  · rw [if_neg ca]
    have r3 := r 3 (by decide) (by decide)
    have r10 := r 10 (by decide) (by decide)
    have r0 := r 0 (by decide) (by decide)
    have r5 := r 5 (by decide) (by decide)
    obtain ⟨⟨T, eT, hT⟩, -, hvs⟩ := hS.1
    obtain ⟨-, ⟨E, e5, hE'⟩, ⟨A, e7, hA'⟩, v4, -⟩ := hvs s hs
    obtain ⟨AT, e8, hAT⟩ := v4 8 (by omega)
    rw [eT, tnI (by omega)] at hAT
    refine SI_ask hs hfl hn hO hS.1 (by rw [r3]; exact hon) (by rw [r10, r0]; exact h10) (by rw [r0]; exact hup) hD hp (by rw [r5]; exact hh) (by rw [r5]; exact hG) (by rw [r5]; unfold lgN; rw [r 4 (by decide) (by decide)]; exact hE) ?_
    by_cases c1 : b 7 s = b 5 s
    · right
      have h2 : ¬ b 0 1 - b 8 s < nI 5 := fun h => ca ⟨c1, h⟩
      rw [eT, e8, pk_sub (by omega)] at h2
      rw [eT, e8, tnI (by omega), tnI (by omega)]
      have : ¬ T - AT < 5 := fun h => h2 ((nI_ltI (by omega) (by decide)).mpr h)
      omega
    · left
      intro h
      refine c1 ?_
      rw [e7, e5, tnI (by omega), tnI (by omega)] at h
      rw [e7, e5, h]
