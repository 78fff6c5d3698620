/-! A tick. -/
def qtS (a : AS) (s : Nat) : Prop := ¬ a 3 s = nI 0 → tn (a 0 1) ≤ tn (a 10 s) + 24 ∧ (tn (a 10 s) + 15 ≤ tn (a 0 1) → tn (a 10 s) + 15 ≤ tn (a 9 s))
def qt (a : AS) : Prop := ∀ s, s < 2 → qtS a s
/-- the clock goes on; v: what the house's last send is taken to be -/
def tkA (a : AS) (v : Int32) : AS := up2 (up2 a 0 1 (a 0 1 + 1)) 9 1 v
theorem tkA_r (a : AS) (v : Int32) (k : Nat) (h : k ≠ 0) (h' : k ≠ 9) : tkA a v k = a k := by
  unfold tkA
  simp (disch := omega) only [up2, up1_n]
theorem SI_tk {n : Nat → Nat} {rem l0 l1 y0 y1 : Nat} {a : AS} {v : Int32} (h : SI n 3 (rem + 1) l0 l1 a) (hT : tn (a 0 1) < 30000) (hv1 : v = a 9 1 ∨ v = a 0 1 + 1) (hph : phN 3 (tkA a v) + y1 ≤ phN 3 a) (hy0 : y0 ≤ (if quN a 10 0 = 14 then 1 else 0) + (if quN a 10 1 = 14 then 1 else 0)) : SI n 3 rem (l0 + y0) (l1 + y1) (tkA a v) ∧ tn (tkA a v 0 1) = tn (a 0 1) + 1 := by
  obtain ⟨hv, gL, gb, gt, gG, gz, hD, p1, p2, p3, p4⟩ := h
  obtain ⟨⟨T, eT, hT0⟩, hup, hvs⟩ := hv
  rw [eT, tnI (by omega)] at hT
  have eT1 : tkA a v 0 1 = nI (T + 1) := by
    show a 0 1 + 1 = _
    rw [eT]
    exact nI_add T 1
  have e01 : tn (tkA a v 0 1) = T + 1 := by rw [eT1, tnI (by omega)]
  have eTa : tn (a 0 1) = T := by rw [eT, tnI (by omega)]
  have r : ∀ k, k ≠ 0 → k ≠ 9 → tkA a v k = a k := tkA_r a v
  have e02 : tkA a v 0 2 = a 0 2 := rfl
  have e022 : tkA a v 0 22 = a 0 22 := rfl
  have e90 : tkA a v 9 0 = a 9 0 := rfl
  have e91 : tkA a v 9 1 = v := rfl
  have hle : ∀ k s, s < 2 → k = 8 ∨ k = 9 ∨ k = 10 → tn (a k s) ≤ T := fun k s hs hk => by
    obtain ⟨-, -, -, v4, -⟩ := hvs s hs
    obtain ⟨x, e, hx⟩ := v4 k hk
    rw [eTa] at hx
    rw [e, tnI (by omega)]
    exact hx
  have eQ : ∀ t, QL (tkA a v) t = QL a t := fun t => rfl
  refine ⟨⟨⟨⟨T + 1, eT1, by omega⟩, hup, fun t ht => ?_⟩, gL, gb, gt, gG, gz, fun Y hY => ?_, ?_⟩, by omega⟩
  · obtain ⟨v1, v2, v3, v4, v5, v6, v7, v8, v9, v10, v11⟩ := hvs t ht
    refine ⟨v1, v2, v3, fun k hk => ?_, v5, v6, v7, v8, v9, v10, v11⟩
    rw [e01]
    obtain ⟨x, e, hx⟩ := v4 k hk
    rw [eTa] at hx
    by_cases c : k = 9 ∧ t = 1
    · obtain ⟨rfl, rfl⟩ := c
      rw [e91]
      rcases hv1 with h | h
      · rw [h]; exact ⟨x, e, by omega⟩
      · exact ⟨T + 1, by rw [h, eT]; exact nI_add T 1, Nat.le_refl _⟩
    · refine ⟨x, ?_, by omega⟩
      have : tkA a v k t = a k t := by
        unfold tkA
        rw [up2_n _ _ (by omega), up2_n _ _ (by omega)]
      rw [this]; exact e
  · obtain ⟨d1, d2, d3⟩ := hD Y hY
    have hi : icN 3 Y = 2 := by
      unfold icN
      rw [if_neg (fun h => by omega), if_pos rfl]
    rw [hi] at d1 ⊢
    exact ⟨DQ_tick d1, d2, d3⟩
  · have g3 : ∀ k t, t < 2 → k = 9 ∨ k = 10 → ¬ (k = 9 ∧ t = 1) → quN (tkA a v) k t = quN a k t + 1 := fun k t ht hk hne => by
      have : tkA a v k t = a k t := by
        unfold tkA
        rw [up2_n _ _ (by omega), up2_n _ _ (by omega)]
      unfold quN
      rw [this, e01, eTa]
      have := hle k t ht (by omega)
      omega
    have x1 := VH_eq (fl := 3) (a := a) (b := tkA a v) (G := gG 1) (G' := gG 1) rfl rfl rfl rfl rfl rfl rfl rfl rfl
    have g1 : gqN (tkA a v) 1 (gG 1) = gqN a 1 (gG 1) := rfl
    have g2 : etaN (tkA a v) 1 = etaN a 1 := rfl
    rw [g1, g2] at x1
    have hVT : VT 3 (tkA a v) (gG 0) = 10 * lgN a 0 + min (quN (tkA a v) 9 0) 10 + 10 * (if 3 = 1 ∨ quN (tkA a v) 10 0 < 15 then 1 else 0) + 10 * (if 3 = 2 ∨ quN (tkA a v) 10 1 < 15 then 1 else 0) + 10 * pnd isT (kF a 1) (tn (a 5 0)) (lgN a 1) + 10 * (gqN a 0 (gG 0) + etaN a 0) + 10 * (if 3 = 1 then lateN (tkA a v) 0 else 0) := rfl
    have hVT0 : VT 3 a (gG 0) = 10 * lgN a 0 + min (quN a 9 0) 10 + 10 * (if 3 = 1 ∨ quN a 10 0 < 15 then 1 else 0) + 10 * (if 3 = 2 ∨ quN a 10 1 < 15 then 1 else 0) + 10 * pnd isT (kF a 1) (tn (a 5 0)) (lgN a 1) + 10 * (gqN a 0 (gG 0) + etaN a 0) + 10 * (if 3 = 1 then lateN a 0 else 0) := rfl
    rw [g3 9 0 (by decide) (by omega) (by omega), g3 10 0 (by decide) (by omega) (by omega), g3 10 1 (by decide) (by omega) (by omega)] at hVT
    have t0 : ∀ q : Nat, (if 3 = 1 ∨ q + 1 < 15 then 1 else 0) + (if q = 14 then 1 else 0) = (if 3 = 1 ∨ q < 15 then 1 else 0) := fun q => by
      by_cases c : q = 14
      · subst c; decide
      · rw [if_neg c]
        by_cases c2 : q < 15
        · rw [if_pos (Or.inr (by omega)), if_pos (Or.inr c2)]
        · rw [if_neg (by omega), if_neg (by omega)]
    have t1 : ∀ q : Nat, (if 3 = 2 ∨ q + 1 < 15 then 1 else 0) + (if q = 14 then 1 else 0) = (if 3 = 2 ∨ q < 15 then 1 else 0) := fun q => by
      by_cases c : q = 14
      · subst c; decide
      · rw [if_neg c]
        by_cases c2 : q < 15
        · rw [if_pos (Or.inr (by omega)), if_pos (Or.inr c2)]
        · rw [if_neg (by omega), if_neg (by omega)]
    have s0 := t0 (quN a 10 0)
    have s1 := t1 (quN a 10 1)
    rw [if_neg (show ¬ (3 : Nat) = 1 by decide)] at hVT hVT0
    obtain ⟨f1, f2⟩ := VS_eq (fl := 3) (a := a) (b := tkA a v) rfl rfl
    exact ⟨by omega, by omega, by rw [f1]; exact p3, by rw [f2]; exact p4⟩
/-- the trader's BEAT costs nothing, his TEST one of each -/
theorem SI_beat0 {n : Nat → Nat} {rem l0 l1 : Nat} {a : AS} (hn : sm8 n ≤ 512) (hO : n 4 ≤ 40) (hup : a 0 2 ≠ nI 0) (h10 : 10 ≤ quN a 9 0) (h : SI n 3 rem l0 l1 a) : SI n 3 rem l0 l1 (gSends a 0 (nI 1) (nI 0) (nI 0) (nI 0) (nI 0)) := by
  refine SI_snd (by decide) hn hO ⟨by decide, by decide, fun _ => by decide, fun h => by omega⟩ (by decide) h (fun gG S e4 hS hc h1 hp => ?_)
  obtain ⟨p1, p2, p3, p4⟩ := hp
  have x1 := VH_send0 (fl := 3) (G := gG 1) (kd := nI 1) (o1 := nI 0) (o2 := nI 0) (o3 := nI 0) (o4 := nI 0) e4 hS hc h1
  rw [tnI (by decide), if_neg (by decide), if_neg (by decide)] at x1
  have x2 := (VT_send0 (fl := 3) (G := gG 0) (kd := nI 1) (o1 := nI 0) (o2 := nI 0) (o3 := nI 0) (o4 := nI 0) e4 hS hc h1).2 hup h10
  have hlg : lgN a 0 = S := by unfold lgN; rw [e4, tnI (by omega)]
  have x3 := (VS_send (fl := 3) (kd := nI 1) (o1 := nI 0) (o2 := nI 0) (o3 := nI 0) (o4 := nI 0) (show 0 < 2 by decide) e4 hS (by omega)).2.1 rfl (by rw [tnI (by decide)]; decide) (by omega)
  exact ⟨by omega, by omega, by omega, by rw [x3.2]; exact p4⟩
theorem SI_test0 {n : Nat → Nat} {rem l0 l1 : Nat} {a : AS} (hn : sm8 n ≤ 512) (hO : n 4 ≤ 40) (h : SI n 3 rem (l0 + 1) (l1 + 1) a) : SI n 3 rem l0 l1 (gSends a 0 (nI 2) (nI 0) (nI 0) (nI 0) (nI 0)) := by
  refine SI_snd (by decide) hn hO ⟨by decide, by decide, fun _ => by decide, fun h => by omega⟩ (by decide) h (fun gG S e4 hS hc h1 hp => ?_)
  obtain ⟨p1, p2, p3, p4⟩ := hp
  have x1 := VH_send0 (fl := 3) (G := gG 1) (kd := nI 2) (o1 := nI 0) (o2 := nI 0) (o3 := nI 0) (o4 := nI 0) e4 hS hc h1
  rw [tnI (by decide), if_neg (by decide), if_pos rfl] at x1
  have x2 := (VT_send0 (fl := 3) (G := gG 0) (kd := nI 2) (o1 := nI 0) (o2 := nI 0) (o3 := nI 0) (o4 := nI 0) e4 hS hc h1).1
  have hlg : lgN a 0 = S := by unfold lgN; rw [e4, tnI (by omega)]
  have x3 := (VS_send (fl := 3) (kd := nI 2) (o1 := nI 0) (o2 := nI 0) (o3 := nI 0) (o4 := nI 0) (show 0 < 2 by decide) e4 hS (by omega)).2.1 rfl (by rw [tnI (by decide)]; decide) (by omega)
  exact ⟨by omega, by omega, by omega, by rw [x3.2]; exact p4⟩
theorem SI_test1 {n : Nat → Nat} {rem l0 l1 : Nat} {a : AS} (hn : sm8 n ≤ 512) (hO : n 4 ≤ 40) (hon : ¬ a 3 1 = nI 0) (h : SI n 3 rem (l0 + 1) (l1 + 1) a) : SI n 3 rem l0 l1 (gSends a 1 (nI 2) (nI 0) (nI 0) (nI 0) (nI 0)) := by
  have hv := h.1
  refine SI_snd (by decide) hn hO ⟨by decide, by decide, fun h => by omega, fun _ => by decide⟩ (by decide) h (fun gG S e4 hS hc h1 hp => ?_)
  obtain ⟨p1, p2, p3, p4⟩ := hp
  have hu : a 0 2 ≠ nI 0 := fun hd => hon (offQ hv (by decide) hd).1
  have x1 := (VH_send1 (fl := 3) (G := gG 1) (kd := nI 2) (o1 := nI 0) (o2 := nI 0) (o3 := nI 0) (o4 := nI 0) e4 hS hc h1 (fun _ => hu) (nn01 (hv.2.2 1 (by decide)).2.2.2.2.2.2.1) (nn01 hv.2.1)).2.1 (by rw [tnI (by decide)]; decide) hon
  have x2 := VT_send1 (fl := 3) (G := gG 0) (kd := nI 2) (o1 := nI 0) (o2 := nI 0) (o3 := nI 0) (o4 := nI 0) e4 hS hc
  rw [tnI (by decide), if_pos rfl] at x2
  have x3 := (VS_send (fl := 3) (kd := nI 2) (o1 := nI 0) (o2 := nI 0) (o3 := nI 0) (o4 := nI 0) (show 1 < 2 by decide) e4 hS h1).1 rfl
  exact ⟨by omega, by omega, by rw [x3.1]; exact p3, by rw [x3.2]; exact p4⟩
/-- going down pays what the house sent last -/
theorem SI_beatdown {n : Nat → Nat} {rem l0 l1 : Nat} {a : AS} (hn : sm8 n ≤ 512) (hO : n 4 ≤ 40) (hon : ¬ a 3 1 = nI 0) (h : SI n 3 rem l0 l1 a) : SI n 3 rem l0 l1 (gDown (gSends a 1 (nI 1) (nI 0) (nI 0) (nI 0) (nI 0))) := by
  have hr := SI_room h hn hO
  obtain ⟨hv, gL, gb, gt, gG, gz, hD, p1, p2, p3, p4⟩ := h
  obtain ⟨⟨S, e4, hS⟩, -⟩ := hv.2.2 1 (by decide)
  have h1 := (hr 1 (by decide)).1
  have h2 := (hr 0 (by decide)).2
  have h3 := (hr 0 (by decide)).1
  unfold lgN at h1
  rw [e4, tnI (by omega)] at h1
  have hqs := DI_q (hD 1 (by decide))
  have hqo := DI_q (hD 0 (by decide))
  have hlg : lgN a 1 = S := by unfold lgN; rw [e4, tnI (by omega)]
  have hqo' : ∀ c, c ∈ QL a 0 → 1 ≤ cEn c ∧ cEn c ≤ S := fun c hc => by have := hqo c hc; rw [show lgN a (1 - 0) = S from hlg] at this; exact this
  have hc : tn (a 20 (1 - 1)) < 65536 := by show tn (a 20 0) < 65536; omega
  obtain ⟨L', hX⟩ := DI_sendX (kd := nI 1) (o1 := nI 0) (o2 := nI 0) (o3 := nI 0) (o4 := nI 0) (show 1 < 2 by decide) e4 (by omega) hc (offQ hv (by decide)) (fun c hc => ⟨(hqs c hc).1, by have := (hqs c hc).2; have e : lgN a (1 - 1) = lgN a 0 := rfl; omega⟩) (hD 0 (by decide))
  have hO' := DI_sendO (kd := nI 1) (o1 := nI 0) (o2 := nI 0) (o3 := nI 0) (o4 := nI 0) (show 1 < 2 by decide) e4 (by omega) hc hqo' (by decide) (hD 1 (by decide))
  have hv2 := sv_send (o1 := nI 0) (o2 := nI 0) (o3 := nI 0) (o4 := nI 0) (k := 1) (show 1 < 2 by decide) e4 (by omega) hc ⟨by decide, by decide, fun h => by omega, fun _ => by decide⟩ hv
  have hu : a 0 2 ≠ nI 0 := fun hd => hon (offQ hv (by decide) hd).1
  have x1 := (VH_send1 (fl := 3) (G := gG 1) (kd := nI 1) (o1 := nI 0) (o2 := nI 0) (o3 := nI 0) (o4 := nI 0) e4 (by omega) (by show tn (a 20 0) < 65536; omega) (by omega) (fun _ => hu) (nn01 (hv.2.2 1 (by decide)).2.2.2.2.2.2.1) (nn01 hv.2.1)).2.1 (by rw [tnI (by decide)]; decide) hon
  have x2 := VT_send1 (fl := 3) (G := gG 0) (kd := nI 1) (o1 := nI 0) (o2 := nI 0) (o3 := nI 0) (o4 := nI 0) e4 (by omega) (by show tn (a 20 0) < 65536; omega)
  rw [tnI (by decide), if_neg (by decide)] at x2
  have x3 := (VS_send (fl := 3) (kd := nI 1) (o1 := nI 0) (o2 := nI 0) (o3 := nI 0) (o4 := nI 0) (show 1 < 2 by decide) e4 (by omega) (by omega)).1 rfl
  have e3 : gSends a 1 (nI 1) (nI 0) (nI 0) (nI 0) (nI 0) 3 = a 3 := gSends_r _ _ _ _ _ _ _ _ (by decide) (by decide) (by decide) (by decide) (by decide)
  refine SI_down (x := 1) (by decide) hv2.1 (fun s hs => ?_) ?_ (gL := fun Y => if Y = 1 then gL Y else L') (gb := gb) (gt := gt) (gG := gG) (gz := gz) (fun Y hY => ?_) (by omega) (by omega) (by rw [x3.1]; exact p3) (by rw [x3.2]; exact p4)
  · obtain ⟨v1, v2, v3, v4, v5, v6, v7, v8, v9, v10, v11⟩ := hv2.2.2 s hs
    exact ⟨v1, v2, v4, v10⟩
  · refine phX_le (by decide) (fun h => hon ?_)
    rw [e3] at h
    exact (tn0 (nn01 (hv.2.2 1 (by decide)).2.2.2.2.2.2.1)).mp h
  · rcases (show Y = 0 ∨ Y = 1 by omega) with rfl | rfl
    · exact hX
    · exact hO'
