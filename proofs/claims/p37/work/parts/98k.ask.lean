/-! Sending in SI; what is old, held, asked for. -/
theorem svS_send {a : AS} {s t S k : Nat} {o1 o2 o3 o4 : Int32} (hs : s < 2) (ht : t < 2) (hT : ∃ T : Nat, a 0 1 = nI T ∧ T ≤ 30000) (e : a 4 s = nI S) (hS : S + 1 ≤ 8190) (hc : tn (a 20 (1 - s)) < 65536) (hk : k ≤ 8 ∧ k ≠ 4 ∧ (s = 0 → k ≤ 7) ∧ (s = 1 → k ≤ 3 ∨ k = 8)) (h : svS a t) : svS (gSends a s (nI k) o1 o2 o3 o4) t := by
  obtain ⟨v1, v2, v3, v4, v5, ⟨c, v6, v6'⟩, v7, v8, v9, v10, v11⟩ := h
  obtain ⟨T, eT, hT⟩ := hT
  have r : ∀ q, q ≠ 4 → (q < 11 ∨ 17 < q) → q ≠ 21 → q ≠ 20 → q ≠ 9 → gSends a s (nI k) o1 o2 o3 o4 q = a q := gSends_r a s (nI k) o1 o2 o3 o4
  have e9 := snd_9 (a := a) (s := s) (kd := nI k) (o1 := o1) (o2 := o2) (o3 := o3) (o4 := o4) t
  have e20 : gSends a s (nI k) o1 o2 o3 o4 20 t = if t = 1 - s ∧ ¬ a 0 2 = nI 0 then nI (tn (a 20 (1 - s)) + 1) else a 20 t := by
    unfold gSends
    by_cases c : a 0 2 = nI 0
    · rw [if_pos (show a 0 2 = 0 from c), if_neg (fun h => h.2 c), gKeep_k _ _ _ _ _ _ _ _ _ (by decide) (by decide)]
    · rw [if_neg (show ¬ a 0 2 = 0 from c)]
      by_cases c1 : t = 1 - s
      · rw [if_pos ⟨c1, c⟩, c1]
        unfold gGoes
        rw [up2_n _ _ (by omega), up2_s, gKeep_k _ _ _ _ _ _ _ _ _ (by decide) (by decide)]
      · rw [if_neg (fun h => c1 h.1), gGoes_o _ _ _ _ _ _ (by decide) (by omega) (by omega), gKeep_k _ _ _ _ _ _ _ _ _ (by decide) (by decide)]
  have e4 : gSends a s (nI k) o1 o2 o3 o4 4 t = if t = s then nI (S + 1) else a 4 t := by
    by_cases c : t = s
    · rw [if_pos c, c, snd_4 e (by omega)]
    · rw [if_neg c, gSends_4o _ _ _ _ _ _ c]
  unfold svS
  rw [r 5 (by decide) (by decide) (by decide) (by decide) (by decide), r 7 (by decide) (by decide) (by decide) (by decide) (by decide), r 3 (by decide) (by decide) (by decide) (by decide) (by decide), r 0 (by decide) (by decide) (by decide) (by decide) (by decide), r 18 (by decide) (by decide) (by decide) (by decide) (by decide), r 19 (by decide) (by decide) (by decide) (by decide) (by decide)]
  refine ⟨?_, v2, v3, fun q hq => ?_, v5, ?_, v7, fun hd => ⟨(v8 hd).1, ?_, (v8 hd).2.2⟩, v9, fun n h1 hn => ?_, v11⟩
  · rw [e4]
    split
    · exact ⟨S + 1, rfl, hS⟩
    · exact v1
  · by_cases c9 : q = 9
    · subst c9
      rw [e9]
      split
      · exact ⟨T, eT, by rw [eT, tnI (by omega)]; exact Nat.le_refl _⟩
      · exact v4 9 (by omega)
    · rw [r q (by omega) (by omega) (by omega) (by omega) c9]
      exact v4 q hq
  · rw [e20]
    split
    · exact ⟨_, rfl, by omega⟩
    · exact ⟨c, v6, v6'⟩
  · rw [e20, if_neg (fun h => h.2 hd)]
    exact (v8 hd).2.1
  · rw [snd_11 e (by omega)]
    by_cases c1 : t = s ∧ n = S + 1
    · rw [if_pos (by rw [c1.1, c1.2])]
      exact ⟨k, rfl, hk.1, hk.2.1, fun h => hk.2.2.1 (by omega), fun h => hk.2.2.2 (by omega)⟩
    · have hn2 : n ≤ tn (a 4 t) := by
        rw [e4] at hn
        by_cases c2 : t = s
        · rw [if_pos c2, tnI (by omega)] at hn
          rw [c2, e, tnI (by omega)]
          omega
        · rw [if_neg c2] at hn; exact hn
      have hn3 : n ≤ 8190 := by
        obtain ⟨S', h1, h2⟩ := v1
        rw [h1, tnI (by omega)] at hn2
        omega
      rw [if_neg (by omega)]
      exact v10 n h1 hn2
theorem sv_send {a : AS} {s S k : Nat} {o1 o2 o3 o4 : Int32} (hs : s < 2) (e : a 4 s = nI S) (hS : S + 1 ≤ 8190) (hc : tn (a 20 (1 - s)) < 65536) (hk : k ≤ 8 ∧ k ≠ 4 ∧ (s = 0 → k ≤ 7) ∧ (s = 1 → k ≤ 3 ∨ k = 8)) (h : sv a) : sv (gSends a s (nI k) o1 o2 o3 o4) := by
  have r0 : gSends a s (nI k) o1 o2 o3 o4 0 = a 0 := gSends_r _ _ _ _ _ _ _ _ (by decide) (by decide) (by decide) (by decide) (by decide)
  refine ⟨by rw [r0]; exact h.1, by rw [r0]; exact h.2.1, fun t ht => svS_send hs ht h.1 e hS hc hk (h.2.2 t ht)⟩
theorem DI_q {VB nP nC ic : Nat} {a : AS} {Y : Nat} {L : List (List Nat)} {b tb : Nat} {G : List Nat} {z : Nat} (h : DI VB nP nC ic a Y L b tb G z) : ∀ c, c ∈ QL a Y → 1 ≤ cEn c ∧ cEn c ≤ lgN a (1 - Y) := fun c hc => by
  obtain ⟨⟨h1, h2, h3, h4, h5, -⟩, -, -⟩ := h
  have := h5 c hc
  omega
theorem offQ {a : AS} {s : Nat} (hv : sv a) (hs : s < 2) (h : a 0 2 = nI 0) : a 3 s = nI 0 ∧ QL a s = [] := by
  obtain ⟨-, -, -, -, -, -, -, v8, -⟩ := hv.2.2 s hs
  exact ⟨(v8 h).1, QL_nil (v8 h).2.1⟩
/-- a send that is no RESEND -/
theorem SI_snd {n : Nat → Nat} {fl rem l0 l1 l0' l1' : Nat} {a : AS} {s k : Nat} {o1 o2 o3 o4 : Int32} (hs : s < 2) (hn : sm8 n ≤ 512) (hO : n 4 ≤ 40) (hk : k ≤ 8 ∧ k ≠ 4 ∧ (s = 0 → k ≤ 7) ∧ (s = 1 → k ≤ 3 ∨ k = 8)) (hk3 : k ≠ 3) (h : SI n fl rem l0 l1 a) (hpot : ∀ gG S, a 4 s = nI S → S + 1 ≤ 8190 → tn (a 20 (1 - s)) < 65536 → lgN a (1 - s) ≤ 8191 → pot n fl rem l0 l1 a gG → pot n fl rem l0' l1' (gSends a s (nI k) o1 o2 o3 o4) gG) : SI n fl rem l0' l1' (gSends a s (nI k) o1 o2 o3 o4) := by
  have hr := SI_room h hn hO
  obtain ⟨hv, gL, gb, gt, gG, gz, hD, hp⟩ := h
  obtain ⟨⟨S, e4, hS⟩, -⟩ := hv.2.2 s hs
  have h1 := (hr s hs).1
  have h2 := (hr (1 - s) (by omega)).2
  have h3 := (hr (1 - s) (by omega)).1
  unfold lgN at h1
  rw [e4, tnI (by omega)] at h1
  have es : 1 - (1 - s) = s := by omega
  have hqs := DI_q (hD s hs)
  have hqo := DI_q (hD (1 - s) (by omega))
  have hlg : lgN a s = S := by unfold lgN; rw [e4, tnI (by omega)]
  rw [es, hlg] at hqo
  obtain ⟨L', hX⟩ := DI_sendX (kd := nI k) (o1 := o1) (o2 := o2) (o3 := o3) (o4 := o4) hs e4 (by omega) (by omega) (offQ hv (by omega)) (fun c hc => ⟨(hqs c hc).1, by have := (hqs c hc).2; omega⟩) (hD (1 - s) (by omega))
  have hO' := DI_sendO (kd := nI k) (o1 := o1) (o2 := o2) (o3 := o3) (o4 := o4) hs e4 (by omega) (by omega) hqo (fun e => hk3 ((nI_eq (by omega) (by omega)).mp e)) (hD s hs)
  refine ⟨sv_send hs e4 (by omega) (by omega) hk hv, fun Y => if Y = s then gL Y else L', gb, gt, gG, gz, fun Y hY => ?_, hpot gG S e4 (by omega) (by omega) (by omega) hp⟩
  by_cases c : Y = s
  · subst c
    simp only [if_true]
    exact hO'
  · have : Y = 1 - s := by omega
    subst this
    simp only [if_neg c]
    exact hX
/-- a session message of the house that is on -/
theorem SI_ses1 {n : Nat → Nat} {fl rem l0 l1 : Nat} {a : AS} {k : Nat} {o1 o2 o3 o4 : Int32} (hn : sm8 n ≤ 512) (hO : n 4 ≤ 40) (hk : k ≤ 1) (hon : ¬ a 3 1 = nI 0) (h : SI n fl rem l0 (l1 + 1) a) : SI n fl rem l0 l1 (gSends a 1 (nI k) o1 o2 o3 o4) := by
  have hv := h.1
  refine SI_snd (by decide) hn hO ⟨by omega, by omega, fun h => by omega, fun _ => by omega⟩ (by omega) h (fun gG S e4 hS hc h1 hp => ?_)
  obtain ⟨p1, p2, p3, p4⟩ := hp
  have hu : a 0 2 ≠ nI 0 := fun hd => hon (offQ hv (by decide) hd).1
  have x1 := (VH_send1 (fl := fl) (G := gG 1) (kd := nI k) (o1 := o1) (o2 := o2) (o3 := o3) (o4 := o4) e4 hS hc h1 (fun _ => hu) (nn01 (hv.2.2 1 (by decide)).2.2.2.2.2.2.1) (nn01 hv.2.1)).2.1 (by rw [tnI (by omega)]; omega) hon
  have x2 := VT_send1 (fl := fl) (G := gG 0) (kd := nI k) (o1 := o1) (o2 := o2) (o3 := o3) (o4 := o4) e4 hS hc
  rw [tnI (by omega), if_neg (by omega)] at x2
  have x3 := (VS_send (fl := fl) (kd := nI k) (o1 := o1) (o2 := o2) (o3 := o3) (o4 := o4) (show 1 < 2 by decide) e4 hS h1).1 rfl
  exact ⟨by omega, by omega, by rw [x3.1]; exact p3, by rw [x3.2]; exact p4⟩
/-- a session message of the trader, in a call that is his -/
theorem SI_ses0 {n : Nat → Nat} {fl rem l0 l1 : Nat} {a : AS} {k : Nat} {o1 o2 o3 o4 : Int32} (hn : sm8 n ≤ 512) (hO : n 4 ≤ 40) (hk : k ≤ 1) (hfl : fl = 1 ∨ fl = 3 ∨ fl = 4) (h : SI n fl rem (l0 + 1) l1 a) : SI n fl rem l0 l1 (gSends a 0 (nI k) o1 o2 o3 o4) := by
  refine SI_snd (by decide) hn hO ⟨by omega, by omega, fun h => by omega, fun h => by omega⟩ (by omega) h (fun gG S e4 hS hc h1 hp => ?_)
  obtain ⟨p1, p2, p3, p4⟩ := hp
  have x1 := VH_send0 (fl := fl) (G := gG 1) (kd := nI k) (o1 := o1) (o2 := o2) (o3 := o3) (o4 := o4) e4 hS hc h1
  rw [tnI (by omega), if_neg (by omega), if_neg (by omega)] at x1
  have x2 := (VT_send0 (fl := fl) (G := gG 0) (kd := nI k) (o1 := o1) (o2 := o2) (o3 := o3) (o4 := o4) e4 hS hc h1).1
  have hlg : lgN a 0 = S := by unfold lgN; rw [e4, tnI (by omega)]
  have x3 := (VS_send (fl := fl) (kd := nI k) (o1 := o1) (o2 := o2) (o3 := o3) (o4 := o4) (show 0 < 2 by decide) e4 hS (by omega)).2.1 rfl (by rw [tnI (by omega)]; omega) hfl
  exact ⟨by omega, by omega, by omega, by rw [x3.2]; exact p4⟩
/-- one that was expected before -/
theorem SIp_old {n : Nat → Nat} {fl rem l0 l1 : Nat} {a : AS} {s c : Nat} (hs : s < 2) (hc : cEn c < tn (a 5 s)) (h : SIp n fl rem l0 l1 a s c 0) : SI n fl rem l0 l1 a := by
  obtain ⟨hv, hon, h10, hup, gL, gb, gt, gG, gz, dq, dk, p3, p4, p5, p6, ho, hp⟩ := h
  refine ⟨hv, gL, gb, gt, gG, gz, fun Y hY => ?_, hp⟩
  by_cases c1 : Y = s
  · subst c1
    exact ⟨dq, DK_old hc dk, fun h => absurd h hon⟩
  · have : Y = 1 - s := by omega
    subst this
    exact ho
/-- what is held -/
theorem hold_18 (a : AS) (s n f : Nat) (i : Nat) : gHold a s n f 18 i = if i = 8192 * s + n then (if f = 0 then nI 1 else nI (f + 2)) else a 18 i := by
  unfold gHold
  by_cases c : i = 8192 * s + n
  · rw [if_pos c, c, up2_s]
  · rw [if_neg c, up2_n _ _ (by omega), up2_n _ _ (by omega)]
theorem gHold_r (a : AS) (s n f k : Nat) (h : k ≠ 18) (h' : k ≠ 6) : gHold a s n f k = a k := by
  unfold gHold
  simp (disch := omega) only [up2, up1_n]
theorem SIp_hold {n : Nat → Nat} {fl rem l0 l1 : Nat} {a : AS} {s c : Nat} (hs : s < 2) (hc : tn (a 5 s) < cEn c) (hz : hN a s (tn (a 5 s)) = 0) (h : SIp n fl rem l0 l1 a s c 0) : SI n fl rem l0 l1 (gHold a s (cEn c) (cEf c)) ∧ ∃ (gL : Nat → List (List Nat)) (gb gt : Nat → Nat) (gG : Nat → List Nat) (gz : Nat → Nat), (∀ Y, Y < 2 → DI (vB n Y) (n 0) (n (1 + Y)) (icN fl Y) (gHold a s (cEn c) (cEf c)) Y (gL Y) (gb Y) (gt Y) (gG Y) (gz Y)) ∧ pot n fl rem l0 l1 (gHold a s (cEn c) (cEf c)) gG ∧ (∀ l R, gL s = l :: R → ∀ c', c' ∈ l → tn (a 5 s) < cEn c') ∧ (tn (a 5 s) ∈ gG s ∨ tn (a 5 s) = gz s) ∧ tn (a 5 s) ≤ lgN a (1 - s) := by
  obtain ⟨hv, hon, h10, hup, gL, gb, gt, gG, gz, dq, dk, p3, p4, p5, p6, ho, hp⟩ := h
  obtain ⟨⟨S, e4, hS⟩, -⟩ := hv.2.2 (1 - s) (by omega)
  have hlg : lgN a (1 - s) = S := by unfold lgN; rw [e4, tnI (by omega)]
  have hcE : cEf c < 8192 := Nat.mod_lt _ (by decide)
  have hvx : hx (if cEf c = 0 then 1 else cEf c + 2) (cEn c) = cNx c := by
    unfold hx cNx
    by_cases c0 : cEf c = 0
    · rw [if_pos c0, if_pos (by decide), if_pos (by omega)]
    · rw [if_neg c0, if_neg (by omega), Nat.add_sub_cancel]
  obtain ⟨k1, k2, k3⟩ := DK_hold (v := if cEf c = 0 then 1 else cEf c + 2) hc p5.2.1 (by split <;> omega) hvx p5.2.2.1 p6 dk
  have ehs : ∀ i, hN (gHold a s (cEn c) (cEf c)) s i = if i = cEn c then (if cEf c = 0 then 1 else cEf c + 2) else hN a s i := fun i => by
    unfold hN
    by_cases ci : i < 8192
    · rw [if_pos ci, if_pos ci, hold_18]
      by_cases c2 : i = cEn c
      · rw [if_pos c2, if_pos (by omega)]
        split
        · rfl
        · exact tnI (by omega)
      · rw [if_neg c2, if_neg (by omega)]
    · rw [if_neg ci, if_neg ci, if_neg (by omega)]
  have eho : ∀ i, hN (gHold a s (cEn c) (cEf c)) (1 - s) i = hN a (1 - s) i := fun i => by
    unfold hN
    by_cases ci : i < 8192
    · rw [if_pos ci, if_pos ci, hold_18, if_neg (by omega)]
    · rw [if_neg ci, if_neg ci]
  have hDs : DI (vB n s) (n 0) (n (1 + s)) (icN fl s) (gHold a s (cEn c) (cEf c)) s (gL s) (gb s) (gt s) (gG s) (gz s) := ⟨dq, DK_h ehs k1, fun h => absurd h hon⟩
  have hDo : DI (vB n (1 - s)) (n 0) (n (1 + (1 - s))) (icN fl (1 - s)) (gHold a s (cEn c) (cEf c)) (1 - s) (gL (1 - s)) (gb (1 - s)) (gt (1 - s)) (gG (1 - s)) (gz (1 - s)) := ⟨ho.1, DK_h eho ho.2.1, fun h => ⟨fun n => (eho n).trans ((ho.2.2 h).1 n), (ho.2.2 h).2⟩⟩
  have hall : ∀ Y, Y < 2 → DI (vB n Y) (n 0) (n (1 + Y)) (icN fl Y) (gHold a s (cEn c) (cEf c)) Y (gL Y) (gb Y) (gt Y) (gG Y) (gz Y) := fun Y hY => by
    by_cases c1 : Y = s
    · subst c1; exact hDs
    · have : Y = 1 - s := by omega
      subst this
      exact hDo
  have hp' : pot n fl rem l0 l1 (gHold a s (cEn c) (cEf c)) gG := hp
  have hsv : sv (gHold a s (cEn c) (cEf c)) := by
    refine ⟨hv.1, hv.2.1, fun t ht => ?_⟩
    obtain ⟨v1, v2, v3, v4, v5, v6, v7, v8, v9, v10, v11⟩ := hv.2.2 t ht
    have r : ∀ k, k ≠ 18 → k ≠ 6 → gHold a s (cEn c) (cEf c) k = a k := gHold_r a s (cEn c) (cEf c)
    refine ⟨v1, v2, v3, fun k hk => by rw [r k (by omega) (by omega)]; exact v4 k hk, v5, v6, v7, v8, v9, v10, fun i hi => ?_⟩
    rw [hold_18]
    by_cases c2 : 8192 * t + i = 8192 * s + cEn c
    · rw [if_pos c2]
      by_cases c0 : cEf c = 0
      · rw [if_pos c0]; exact ⟨1, rfl, by omega, by omega⟩
      · rw [if_neg c0]; exact ⟨cEf c + 2, rfl, by have := p5.2.2.2; omega, by omega⟩
    · rw [if_neg c2]
      exact v11 i hi
  exact ⟨⟨hsv, gL, gb, gt, gG, gz, hall, hp'⟩, gL, gb, gt, gG, gz, hall, hp', fun l R e c' hc' => by have := p3 l R e c' hc'; omega, k2 hz, k3⟩
