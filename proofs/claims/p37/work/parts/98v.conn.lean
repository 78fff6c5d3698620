/-! A connection begins. -/
theorem SI_less {n : Nat → Nat} {fl rem l0 l1 l0' l1' : Nat} {a : AS} (h0 : l0' ≤ l0) (h1 : l1' ≤ l1) (h : SI n fl rem l0 l1 a) : SI n fl rem l0' l1' a :=
  SI_call (fun _ => Nat.le_refl _) (fun _ _ e => Or.inl e) (fun _ _ e => Or.inl e) (fun _ hp => ⟨by have := hp.1; omega, by have := hp.2.1; omega, hp.2.2.1, hp.2.2.2⟩) h
/-- the house's LOGON -/
theorem SI_log1 {n : Nat → Nat} {fl rem l0 l1 : Nat} {a : AS} {k : Nat} {o1 o2 o3 o4 : Int32} (hn : sm8 n ≤ 512) (hO : n 4 ≤ 40) (hk : k ≤ 1) (hoff : a 3 1 = nI 0) (hu : a 0 2 ≠ nI 0) (h : SI n fl rem l0 (l1 + if laN a ≠ 0 then 3 else 2) a) : SI n fl rem l0 l1 (gSends a 1 (nI k) o1 o2 o3 o4) := by
  have hv := h.1
  refine SI_snd (by decide) hn hO ⟨by omega, by omega, fun h => by omega, fun _ => by omega⟩ (by omega) h (fun gG S e4 hS hc h1 hp => ?_)
  obtain ⟨p1, p2, p3, p4⟩ := hp
  have x1 := (VH_send1 (fl := fl) (G := gG 1) (kd := nI k) (o1 := o1) (o2 := o2) (o3 := o3) (o4 := o4) e4 hS hc h1 (fun _ => hu) (nn01 (hv.2.2 1 (by decide)).2.2.2.2.2.2.1) (nn01 hv.2.1)).2.2 (by rw [tnI (by omega)]; omega) hoff hu
  have x2 := VT_send1 (fl := fl) (G := gG 0) (kd := nI k) (o1 := o1) (o2 := o2) (o3 := o3) (o4 := o4) e4 hS hc
  rw [tnI (by omega), if_neg (by omega)] at x2
  have x3 := (VS_send (fl := fl) (kd := nI k) (o1 := o1) (o2 := o2) (o3 := o3) (o4 := o4) (show 1 < 2 by decide) e4 hS h1).1 rfl
  exact ⟨by omega, by omega, by rw [x3.1]; exact p3, by rw [x3.2]; exact p4⟩
theorem gCon0_r (a : AS) (z : Bool) (k : Nat) (h0 : k ≠ 0) (h4 : k ≠ 4) (h5 : k ≠ 5) (h9 : k ≠ 9) (h10 : k ≠ 10) : gCon0 a z k = a k := by
  unfold gCon0 gCon1
  simp (disch := omega) only [up2, up1_n]
theorem gCon0_0 (a : AS) (z : Bool) (i : Nat) (h0 : i ≠ 0) : gCon0 a z 0 i = if i = 2 then nI 1 else a 0 i := by
  unfold gCon0 gCon1
  by_cases c : i = 2
  · rw [if_pos c, c, up2_s]
  · rw [if_neg c]
    simp (disch := omega) only [up2_n]
theorem gCon0_v (a : AS) (z : Bool) (s : Nat) (hs : s < 2) : gCon0 a z 4 s = (if z then nI 0 else a 4 s) ∧ gCon0 a z 5 s = (if z then nI 1 else a 5 s) ∧ gCon0 a z 9 s = a 0 1 ∧ gCon0 a z 10 s = a 0 1 := by
  rcases (show s = 0 ∨ s = 1 by omega) with rfl | rfl
  · refine ⟨?_, ?_, ?_, ?_⟩ <;> unfold gCon0 gCon1 <;> simp (disch := omega) only [up2_n, up2_s]
  · refine ⟨?_, ?_, ?_, ?_⟩ <;> unfold gCon0 gCon1 <;> simp (disch := omega) only [up2_n, up2_s]
theorem SI_con0 {n : Nat → Nat} {l0 l1 : Nat} {a : AS} (z : Bool) (h7 : 1 ≤ n 7) (hd : a 0 2 = nI 0) (h : SI n 4 0 (l0 + 5) (l1 + 5) a) : SI n 4 0 (l0 + 2 + if z then lgN a 0 else 0) (l1 + (if laN (gCon0 a z) ≠ 0 then 3 else 2) + if z then lgN a 1 else 0) (gCon0 a z) := by
  obtain ⟨hv, gL, gb, gt, gG, gz, hD, p1, p2, p3, p4⟩ := h
  obtain ⟨⟨T, eT, hT⟩, -, hvs⟩ := hv
  have r : ∀ k, k ≠ 0 → k ≠ 4 → k ≠ 5 → k ≠ 9 → k ≠ 10 → gCon0 a z k = a k := gCon0_r a z
  have r0 : ∀ i, i ≠ 0 → gCon0 a z 0 i = if i = 2 then nI 1 else a 0 i := gCon0_0 a z
  have e01 : gCon0 a z 0 1 = a 0 1 := by rw [r0 1 (by decide), if_neg (by decide)]
  have e02 : gCon0 a z 0 2 = nI 1 := by rw [r0 2 (by decide), if_pos rfl]
  have e022 : gCon0 a z 0 22 = a 0 22 := by rw [r0 22 (by decide), if_neg (by decide)]
  have r3 := r 3 (by decide) (by decide) (by decide) (by decide) (by decide)
  have r7 := r 7 (by decide) (by decide) (by decide) (by decide) (by decide)
  have r8 := r 8 (by decide) (by decide) (by decide) (by decide) (by decide)
  have r11 := r 11 (by decide) (by decide) (by decide) (by decide) (by decide)
  have r18 := r 18 (by decide) (by decide) (by decide) (by decide) (by decide)
  have r19 := r 19 (by decide) (by decide) (by decide) (by decide) (by decide)
  have r20 := r 20 (by decide) (by decide) (by decide) (by decide) (by decide)
  have hoff : ∀ t, t < 2 → a 3 t = nI 0 ∧ a 20 t = nI 0 ∧ a 7 t = nI 0 := fun t ht => (hvs t ht).2.2.2.2.2.2.2.1 hd
  have eQ0 : ∀ t, t < 2 → QL a t = [] := fun t ht => QL_nil (hoff t ht).2.1
  have eQ : ∀ t, t < 2 → QL (gCon0 a z) t = [] := fun t ht => QL_nil (by rw [r20]; exact (hoff t ht).2.1)
  have elg : ∀ t, t < 2 → lgN (gCon0 a z) t + (if z then lgN a t else 0) = lgN a t := fun t ht => by
    unfold lgN
    rw [(gCon0_v a z t ht).1]
    cases z
    · rfl
    · show tn (nI 0) + tn (a 4 t) = tn (a 4 t)
      rw [show tn (nI 0) = 0 from rfl, Nat.zero_add]
  refine ⟨⟨⟨T, e01.trans eT, hT⟩, Or.inr e02, fun t ht => ?_⟩, fun _ => [[]], fun _ => 0, fun _ => 0, fun _ => [], fun Y => tn (gCon0 a z 5 Y), fun Y hY => ?_, ?_⟩
  · obtain ⟨v1, v2, v3, v4, v5, v6, v7, v8, v9, v10, v11⟩ := hvs t ht
    obtain ⟨g4, g5, g9, g10⟩ := gCon0_v a z t ht
    have hnow : ∃ v : Nat, a 0 1 = nI v ∧ v ≤ tn (a 0 1) := ⟨T, eT, by rw [eT, tnI (by omega)]; exact Nat.le_refl _⟩
    unfold svS
    rw [r7, r3, r11, r18, r19, r20, g4, g5, e01, e02]
    refine ⟨?_, ?_, v3, fun k hk => ?_, v5, v6, v7, fun h => absurd h (by decide), fun _ => by decide, fun i h1 hi => ?_, v11⟩
    · cases z
      · exact v1
      · exact ⟨0, rfl, by omega⟩
    · cases z
      · exact v2
      · exact ⟨1, rfl, by omega⟩
    · rcases hk with rfl | rfl | rfl
      · rw [r8]; exact v4 8 (by omega)
      · rw [g9]; exact hnow
      · rw [g10]; exact hnow
    · cases z
      · exact v10 i h1 hi
      · have : tn (nI 0) = 0 := rfl
        have hi' : i ≤ tn (nI 0) := hi
        omega
  · obtain ⟨d1, d2, d3⟩ := hD Y hY
    obtain ⟨k1, k2, -⟩ := d2
    obtain ⟨g4, g5, -⟩ := gCon0_v a z Y hY
    obtain ⟨g4', -⟩ := gCon0_v a z (1 - Y) (by omega)
    have hh : ∀ i, hN (gCon0 a z) Y i = 0 := fun i => by
      have := (d3 (hoff Y hY).1).1 i
      unfold hN at this ⊢
      rw [r18]; exact this
    have hrs : rsN (gCon0 a z) Y = 0 := by
      unfold rsN
      rw [eQ (1 - Y) (by omega)]
      rfl
    have hE : 1 ≤ tn (gCon0 a z 5 Y) ∧ tn (gCon0 a z 5 Y) ≤ lgN (gCon0 a z) (1 - Y) + 1 := by
      unfold lgN
      rw [g5, g4']
      cases z
      · exact ⟨k1, k2⟩
      · exact ⟨Nat.le_refl _, by show tn (nI 1) ≤ tn (nI 0) + 1; decide⟩
    unfold DI
    rw [eQ Y hY, hrs, r7, (hoff Y hY).2.2, r8, e01]
    exact ⟨DQ_new hE.1 d1, DK_new hh hE.1 hE.2, fun _ => ⟨hh, rfl⟩⟩
  · have g1 : ∀ t, t < 2 → gqN (gCon0 a z) t [] = 0 := fun t ht => by unfold gqN; rw [eQ t ht]; rfl
    have g2 : ∀ t, t < 2 → etaN (gCon0 a z) t = 1 := fun t ht => by
      unfold etaN
      rw [e02, r7, (hoff t ht).2.2]
      rfl
    have l0' := elg 0 (by decide)
    have l1' := elg 1 (by decide)
    have ekF : kF (gCon0 a z) = kF a := by funext t i; unfold kF; rw [r11]
    have hap : ∀ f : Nat → Nat, apF f (lgN (gCon0 a z) 1) ≤ apF f (lgN a 1) ∧ grF f (lgN (gCon0 a z) 1) ≤ grF f (lgN a 1) := fun f => by
      unfold lgN
      rw [(gCon0_v a z 1 (by decide)).1]
      cases z
      · exact ⟨Nat.le_refl _, Nat.le_refl _⟩
      · exact ⟨Nat.zero_le _, Nat.zero_le _⟩
    have hpn : ∀ (p : Nat → Bool) (f : Nat → Nat) (s t : Nat), s < 2 → t < 2 → pnd p f (tn (gCon0 a z 5 t)) (lgN (gCon0 a z) s) ≤ pnd p f (tn (a 5 t)) (lgN a s) := fun p f s t hs ht => by
      unfold lgN
      rw [(gCon0_v a z s hs).1, (gCon0_v a z t ht).2.1]
      cases z
      · exact Nat.le_refl _
      · exact Nat.zero_le _
    have e3 : unfN (gCon0 a z) = unfN a := by
      unfold unfN isU lft
      rw [e022, r 24 (by decide) (by decide) (by decide) (by decide) (by decide), r 26 (by decide) (by decide) (by decide) (by decide) (by decide), r 27 (by decide) (by decide) (by decide) (by decide) (by decide), r 28 (by decide) (by decide) (by decide) (by decide) (by decide)]
    have e4 : posN (gCon0 a z) = posN a := by unfold posN isP; rw [r 34 (by decide) (by decide) (by decide) (by decide) (by decide)]
    have e31 : tn (a 3 1) = 0 := by rw [(hoff 1 (by decide)).1]; rfl
    have e30 : tn (a 3 0) = 0 := by rw [(hoff 0 (by decide)).1]; rfl
    have e20 : tn (a 20 0) = 0 := by rw [(hoff 0 (by decide)).2.1]; rfl
    have eph : phN 4 (gCon0 a z) = if laN (gCon0 a z) ≠ 0 then 1 else 2 := by
      have g : phN 4 (gCon0 a z) = phs (tn (gCon0 a z 0 2)) (tn (gCon0 a z 3 1)) (tn (gCon0 a z 3 0)) (quN (gCon0 a z) 10 1) (quN (gCon0 a z) 9 1) (quN (gCon0 a z) 10 0) (tn (gCon0 a z 20 0)) (laN (gCon0 a z)) := by
        unfold phN phX
        exact if_neg (by decide)
      rw [g, e02, r3, r20, e31, e30, e20]
      unfold phs
      rw [if_neg (by decide), if_pos (by decide), if_neg (fun h => h.1 rfl), Nat.zero_add]
    have x1 : VH 4 (gCon0 a z) [] + (if z then lgN a 1 else 0) ≤ VH 4 a (gG 1) + 1 + (if laN (gCon0 a z) ≠ 0 then 1 else 2) := by
      have f1 := hap (kF a 1)
      have f2 := hpn isA (kF a 0) 0 1 (by decide) (by decide)
      have f3 := hpn isT (kF a 0) 0 1 (by decide) (by decide)
      unfold VH VHl VHp
      rw [g1 1 (by decide), g2 1 (by decide), eph, e3, e4, ekF]
      omega
    have x2 : VT 4 (gCon0 a z) [] + 10 * (if z then lgN a 0 else 0) ≤ VT 4 a (gG 0) + 30 := by
      have f3 := hpn isT (kF a 1) 1 0 (by decide) (by decide)
      have f9 : quN (gCon0 a z) 9 0 = 0 := by unfold quN; rw [(gCon0_v a z 0 (by decide)).2.2.1, e01, Nat.sub_self]
      have h1 : ∀ (p : Prop) [Decidable p], (if p then 1 else 0) ≤ 1 := fun p _ => by split <;> omega
      have y1 := h1 (4 = 1 ∨ quN (gCon0 a z) 10 0 < 15)
      have y2 := h1 (4 = 2 ∨ quN (gCon0 a z) 10 1 < 15)
      unfold VT
      rw [g1 0 (by decide), g2 0 (by decide), ekF, f9, if_neg (show ¬ (4 : Nat) = 1 by decide), if_neg (show ¬ (4 : Nat) = 1 by decide)]
      omega
    refine ⟨?_, ?_, ?_, ?_⟩
    · show VH 4 (gCon0 a z) [] + _ ≤ _
      by_cases c : laN (gCon0 a z) ≠ 0
      · rw [if_pos c] at x1 ⊢; omega
      · rw [if_neg c] at x1 ⊢; omega
    · show VT 4 (gCon0 a z) [] + _ + _ ≤ _
      rw [Nat.mul_add, Nat.mul_add]
      omega
    · cases z
      · have : VS 4 (gCon0 a false) = VS 4 a := by
          unfold VS lgN
          rw [ekF, (gCon0_v a false 0 (by decide)).1]
          rfl
        rw [this]; exact p3
      · have : VS 4 (gCon0 a true) ≤ 1 := by
          unfold VS lgN
          rw [ekF, (gCon0_v a true 0 (by decide)).1]
          show srF (kF a 0) 0 + _ ≤ 1
          have h1 : ∀ (p : Prop) [Decidable p], 0 + (if p then 1 else 0) ≤ 1 := fun p _ => by split <;> omega
          exact h1 _
        unfold bS
        omega
    · cases z
      · have : VA (gCon0 a false) = VA a := by
          unfold VA lgN
          rw [ekF, (gCon0_v a false 0 (by decide)).1]
          rfl
        rw [this]; exact p4
      · have : VA (gCon0 a true) = 0 := by
          unfold VA lgN
          rw [ekF, (gCon0_v a true 0 (by decide)).1]
          rfl
        rw [this]; exact Nat.zero_le _
theorem SI_con {n : Nat → Nat} {l0 l1 : Nat} {a : AS} (z : Bool) (hn : sm8 n ≤ 512) (hO : n 4 ≤ 40) (h7 : 1 ≤ n 7) (hd : a 0 2 = nI 0) (h : SI n 4 0 (l0 + 5) (l1 + 5) a) : SI n 4 0 (l0 + if z then lgN a 0 else 0) (l1 + if z then lgN a 1 else 0) (gConnect a z) := by
  have h0 := SI_con0 z h7 hd h
  have h1 := SI_ses0 (l0 := l0 + if z then lgN a 0 else 0) (o1 := nI 0) (o2 := nI 0) (o3 := nI 0) (o4 := nI 0) hn hO (show 0 ≤ 1 by decide) (Or.inr (Or.inr rfl)) (SI_less (show l0 + (if z then lgN a 0 else 0) + 1 ≤ l0 + 2 + (if z then lgN a 0 else 0) by omega) (Nat.le_refl _) h0)
  have e4 : gSends (gCon0 a z) 0 (nI 0) (nI 0) (nI 0) (nI 0) (nI 0) 3 = gCon0 a z 3 := gSends_r _ _ _ _ _ _ _ 3 (by decide) (by decide) (by decide) (by decide) (by decide)
  have e0 : gSends (gCon0 a z) 0 (nI 0) (nI 0) (nI 0) (nI 0) (nI 0) 0 = gCon0 a z 0 := gSends_r _ _ _ _ _ _ _ 0 (by decide) (by decide) (by decide) (by decide) (by decide)
  have e02 : gCon0 a z 0 2 = nI 1 := by rw [gCon0_0 a z 2 (by decide), if_pos rfl]
  have hla : laN (gSends (gCon0 a z) 0 (nI 0) (nI 0) (nI 0) (nI 0) (nI 0)) = laN (gCon0 a z) := by
    obtain ⟨⟨S, e, hS⟩, -⟩ := h0.1.2.2 0 (by decide)
    obtain ⟨⟨S1, e1, hS1⟩, -⟩ := h0.1.2.2 1 (by decide)
    have hl1 : lgN (gCon0 a z) 1 = S1 := by unfold lgN; rw [e1, tnI (by omega)]
    unfold laN
    rw [snd_lgo (by decide), hl1]
    by_cases c : S1 = 0
    · rw [if_neg (fun h => h.1 c), if_neg (fun h => h.1 c)]
    · rw [snd_kF (by decide) (by decide) e hS (by omega) (by omega), if_neg (show ¬ ((1 : Nat) = 0 ∧ S1 = S + 1) from fun h => absurd h.1 (by decide))]
  refine SI_log1 hn hO (by decide) ?_ (by rw [e0, e02]; decide) (SI_less (Nat.le_refl _) ?_ h1)
  · rw [e4, gCon0_r a z 3 (by decide) (by decide) (by decide) (by decide) (by decide)]
    exact ((h.1.2.2 1 (by decide)).2.2.2.2.2.2.2.1 hd).1
  · rw [hla]
    omega
