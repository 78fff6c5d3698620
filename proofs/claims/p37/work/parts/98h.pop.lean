/-! A message comes: from the first entry to where its number is looked at. -/
theorem gPop_r (a : AS) (s k : Nat) (h : k ≠ 19) (h' : k ≠ 20) : gPop a s k = a k := by
  unfold gPop
  simp (disch := omega) only [up2, up1_n]
theorem VH_eq {fl : Nat} {a b : AS} {G G' : List Nat} (h4 : b 4 = a 4) (h11 : b 11 = a 11) (h5 : b 5 1 = a 5 1) (h0 : b 0 22 = a 0 22) (h24 : b 24 = a 24) (h26 : b 26 = a 26) (h27 : b 27 = a 27) (h28 : b 28 = a 28) (h34 : b 34 = a 34) : VH fl b G' + (gqN a 1 G + etaN a 1 + phN fl a) = VH fl a G + (gqN b 1 G' + etaN b 1 + phN fl b) := by
  have e1 : VHl b = VHl a := by unfold VHl kF lgN; rw [h4, h11]
  have e2 : VHp b = VHp a := by unfold VHp kF lgN; rw [h4, h11, h5]
  have e3 : unfN b = unfN a := by unfold unfN isU lft; rw [h0, h24, h26, h27, h28]
  have e4 : posN b = posN a := by unfold posN isP; rw [h34]
  unfold VH
  rw [e1, e2, e3, e4]
  omega
theorem VT_le {fl : Nat} {a b : AS} {G G' : List Nat} (h4 : b 4 = a 4) (h11 : b 11 = a 11) (h5 : b 5 0 = a 5 0) (h9 : quN b 9 0 ≤ quN a 9 0) (hc0 : (if fl = 1 ∨ quN b 10 0 < 15 then 1 else 0) ≤ (if fl = 1 ∨ quN a 10 0 < 15 then 1 else 0)) (hc1 : (if fl = 2 ∨ quN b 10 1 < 15 then 1 else 0) ≤ (if fl = 2 ∨ quN a 10 1 < 15 then 1 else 0)) (hl : lateN b 0 ≤ lateN a 0) : VT fl b G' + 10 * (gqN a 0 G + etaN a 0) ≤ VT fl a G + 10 * (gqN b 0 G' + etaN b 0) := by
  have e1 : lgN b 0 = lgN a 0 := by unfold lgN; rw [h4]
  have e2 : pnd isT (kF b 1) (tn (b 5 0)) (lgN b 1) = pnd isT (kF a 1) (tn (a 5 0)) (lgN a 1) := by unfold kF lgN; rw [h4, h11, h5]
  unfold VT
  rw [e1, e2]
  have h1 : (if fl = 1 then lateN b 0 else 0) ≤ (if fl = 1 then lateN a 0 else 0) := by split <;> omega
  have h2 : min (quN b 9 0) 10 ≤ min (quN a 9 0) 10 := by omega
  omega
theorem VS_eq {fl : Nat} {a b : AS} (h4 : b 4 = a 4) (h11 : b 11 = a 11) : VS fl b = VS fl a ∧ VA b = VA a := by
  unfold VS VA kF lgN
  rw [h4, h11]
  exact ⟨rfl, rfl⟩
/-- a direction, of which r RESENDs are counted -/
def DIr (VB nP nC ic : Nat) (a : AS) (Y r : Nat) (L : List (List Nat)) (b tb : Nat) (G : List Nat) (z : Nat) : Prop :=
  DQ VB nP nC ic (QL a Y) (lgN a (1 - Y)) (tn (a 5 Y)) (tn (a 7 Y)) (tn (a 8 Y)) (tn (a 0 1)) r L b tb ∧ DK (QL a Y) (lgN a (1 - Y)) (tn (a 5 Y)) (tn (a 7 Y)) (hN a Y) G z ∧ (a 3 Y = nI 0 → (∀ n, hN a Y n = 0) ∧ z = tn (a 5 Y))
theorem DIr_of {VB nP nC ic : Nat} {a b : AS} {Y r r' : Nat} {L : List (List Nat)} {b' tb : Nat} {G : List Nat} {z : Nat} (hr : r' ≤ r) (hQ : QL b Y = QL a Y) (h4 : b 4 = a 4) (h5 : b 5 Y = a 5 Y) (h7 : b 7 Y = a 7 Y) (h8 : b 8 Y = a 8 Y) (h0 : b 0 1 = a 0 1) (h18 : b 18 = a 18) (h3 : b 3 Y = a 3 Y) (h : DIr VB nP nC ic a Y r L b' tb G z) : DIr VB nP nC ic b Y r' L b' tb G z := by
  obtain ⟨g1, g2, g3⟩ := h
  have eh : ∀ n, hN b Y n = hN a Y n := fun n => by unfold hN; rw [h18]
  have e4 : lgN b (1 - Y) = lgN a (1 - Y) := by unfold lgN; rw [h4]
  unfold DIr
  rw [hQ, e4, h5, h7, h8, h0, h3]
  exact ⟨DQ_r hr g1, DK_h eh g2, fun h => ⟨fun n => (eh n).trans ((g3 h).1 n), (g3 h).2⟩⟩
theorem rsN_of {a b : AS} {Y : Nat} (hQ : QL b (1 - Y) = QL a (1 - Y)) (h11 : b 11 = a 11) : rsN b Y = rsN a Y := by
  unfold rsN isR kF
  rw [hQ, h11]
/-- one has come to side s, and its number isn't looked at yet; p: 1 if it asks, and isn't answered yet -/
def SIp (n : Nat → Nat) (fl rem l0 l1 : Nat) (a : AS) (s c p : Nat) : Prop := sv a ∧ ¬ a 3 s = nI 0 ∧ tn (a 10 s) = tn (a 0 1) ∧ a 0 2 ≠ nI 0 ∧ ∃ (gL : Nat → List (List Nat)) (gb gt : Nat → Nat) (gG : Nat → List Nat) (gz : Nat → Nat),
  DQ (vB n s) (n 0) (n (1 + s)) (icN fl s) (QL a s) (lgN a (1 - s)) (tn (a 5 s)) (tn (a 7 s)) (tn (a 8 s)) (tn (a 0 1)) (rsN a s) (gL s) (gb s) (gt s) ∧ DK (c :: QL a s) (lgN a (1 - s)) (tn (a 5 s)) (tn (a 7 s)) (hN a s) (gG s) (gz s) ∧
  (∀ l R, gL s = l :: R → ∀ c', c' ∈ l → cEn c < cEn c') ∧ (gb s = 1 ∨ tn (a 7 s) ≠ tn (a 5 s) ∨ tn (a 5 s) < cEn c) ∧ (1 ≤ cEn c ∧ cEn c ≤ lgN a (1 - s) ∧ cNx c ≤ lgN a (1 - s) + 1 ∧ cEf c ≠ 1) ∧ NXq (cNx c) (QL a s) (lgN a (1 - s)) ∧
  DIr (vB n (1 - s)) (n 0) (n (1 + (1 - s))) (icN fl (1 - s)) a (1 - s) (rsN a (1 - s) + p) (gL (1 - s)) (gb (1 - s)) (gt (1 - s)) (gG (1 - s)) (gz (1 - s)) ∧ pot n fl rem l0 l1 a gG
theorem svS_pop {a : AS} {s t : Nat} (h1 : 1 ≤ tn (a 20 s)) (h : svS a t) : svS (gPop a s) t := by
  obtain ⟨v1, v2, v3, v4, ⟨H, v5, v5'⟩, ⟨c, v6, v6'⟩, v7, v8, v9, v10, v11⟩ := h
  have r : ∀ k, k ≠ 19 → k ≠ 20 → gPop a s k = a k := fun k h h' => gPop_r a s k h h'
  have e19 : gPop a s 19 t = if t = s then nI ((tn (a 19 s) + 1) % 65536) else a 19 t := by
    unfold gPop
    by_cases c1 : t = s
    · rw [if_pos c1, c1, up2_n _ _ (by omega), up2_s]
    · rw [if_neg c1, up2_n _ _ (by omega), up2_n _ _ (by omega)]
  have e20 : gPop a s 20 t = if t = s then nI (tn (a 20 s) - 1) else a 20 t := by
    unfold gPop
    by_cases c1 : t = s
    · rw [if_pos c1, c1, up2_s]
    · rw [if_neg c1, up2_n _ _ (by omega), up2_n _ _ (by omega)]
  unfold svS
  rw [r 4 (by decide) (by decide), r 5 (by decide) (by decide), r 7 (by decide) (by decide), r 3 (by decide) (by decide), r 0 (by decide) (by decide), r 11 (by decide) (by decide), r 18 (by decide) (by decide)]
  refine ⟨v1, v2, v3, fun k hk => by rw [r k (by omega) (by omega)]; exact v4 k hk, ?_, ?_, v7, fun hd => ⟨(v8 hd).1, ?_, (v8 hd).2.2⟩, v9, v10, v11⟩
  · rw [e19]
    split
    · exact ⟨_, rfl, Nat.mod_lt _ (by decide)⟩
    · exact ⟨H, v5, v5'⟩
  · rw [e20]
    by_cases c1 : t = s
    · rw [if_pos c1]
      subst c1
      rw [v6, tnI (by omega)]
      exact ⟨_, rfl, by omega⟩
    · rw [if_neg c1]
      exact ⟨c, v6, v6'⟩
  · rw [e20]
    by_cases c1 : t = s
    · subst c1
      have := (v8 hd).2.1
      rw [this] at h1
      exact absurd h1 (by decide)
    · rw [if_neg c1]
      exact (v8 hd).2.1
theorem sv_pop {a : AS} {s : Nat} (h1 : 1 ≤ tn (a 20 s)) (h : sv a) : sv (gPop a s) := by
  obtain ⟨h2, h3, h4⟩ := h
  have r := gPop_r a s 0 (by decide) (by decide)
  unfold sv
  rw [r]
  exact ⟨h2, h3, fun t ht => svS_pop h1 (h4 t ht)⟩
theorem pop_20 {a : AS} {s t : Nat} : tn (gPop a s 20 t) ≤ tn (a 20 t) := by
  unfold gPop
  by_cases c1 : t = s
  · subst c1
    rw [up2_s]
    have := tn_lt (a 20 t)
    rw [tnI (by omega)]
    omega
  · rw [up2_n _ _ (by omega), up2_n _ _ (by omega)]
    exact Nat.le_refl _
theorem pop_20s {a : AS} {s : Nat} (h1 : 1 ≤ tn (a 20 s)) : tn (gPop a s 20 s) + 1 = tn (a 20 s) := by
  unfold gPop
  rw [up2_s]
  have := tn_lt (a 20 s)
  rw [tnI (by omega)]
  omega
theorem upN {a : AS} {s : Nat} (hv : sv a) (hs : s < 2) (h1 : 1 ≤ tn (a 20 s)) : a 0 2 ≠ nI 0 := fun h => by
  obtain ⟨-, -, -, -, -, -, -, v8, -⟩ := hv.2.2 s hs
  have := (v8 h).2.1
  rw [this] at h1
  exact absurd h1 (by decide)
/-- a queue that shortens lessens the phase -/
theorem phX_q {fl u o1 o0 dH eH dT q0 q0' la v : Nat} (h : q0' ≤ q0) : phX fl u o1 o0 dH eH dT q0' la v ≤ phX fl u o1 o0 dH eH dT q0 la v := by
  unfold phX phs
  split
  · split
    · exact Nat.le_refl _
    · split
      · exact Nat.le_refl _
      · split <;> omega
  · split
    · exact Nat.le_refl _
    · split <;> omega
theorem isG_c {c : Nat} : isG c = true ↔ c % 2 = 1 := by unfold isG; exact decide_eq_true_iff
/-- one that is lost -/
theorem SI_lost {n : Nat → Nat} {fl rem l0 l1 : Nat} {a : AS} {s : Nat} (hs : s < 2) (h1 : 1 ≤ tn (a 20 s)) (hin : ¬ isIn a s) (h : SI n fl rem l0 l1 a) : SI n fl rem l0 l1 (gPop a s) := by
  obtain ⟨hv, gL, gb, gt, gG, gz, hD, hp⟩ := h
  obtain ⟨q1, q2⟩ := QL_pop hs h1
  have r : ∀ k, k ≠ 19 → k ≠ 20 → gPop a s k = a k := fun k h h' => gPop_r a s k h h'
  generalize hc : wyE a s = c at q1
  have hDs := hD s hs
  have hDo := hD (1 - s) (by omega)
  unfold DI at hDs hDo
  rw [q1] at hDs
  obtain ⟨dq, dk, doff⟩ := hDs
  obtain ⟨b', pq, p3, p4, p5, p6⟩ := DQ_pop dq
  have e4 : ∀ t, lgN (gPop a s) t = lgN a t := fun t => by unfold lgN; rw [r 4 (by decide) (by decide)]
  have eh : ∀ t n, hN (gPop a s) t n = hN a t n := fun t n => by unfold hN; rw [r 18 (by decide) (by decide)]
  have ers : rsN (gPop a s) s = rsN a s := rsN_of q2 (r 11 (by decide) (by decide))
  have ero : rsN (gPop a s) (1 - s) ≤ rsN a (1 - s) := by
    unfold rsN
    rw [show 1 - (1 - s) = s by omega, q1]
    show cntL (isR (gPop a s) (1 - s)) (QL (gPop a s) s) ≤ _ + cntL (isR a (1 - s)) (QL (gPop a s) s)
    have : cntL (isR (gPop a s) (1 - s)) (QL (gPop a s) s) = cntL (isR a (1 - s)) (QL (gPop a s) s) := by unfold isR kF; rw [r 11 (by decide) (by decide)]
    omega
  have r0 := r 0 (by decide) (by decide)
  have r7 := r 7 (by decide) (by decide)
  have e7 : ∀ t G, gqN (gPop a s) t G = cntL isG (QL (gPop a s) t) + cntL (fun g => decide (tn (a 7 t) < g)) G := fun t G => by unfold gqN; rw [r7]
  have eeta : ∀ t, etaN (gPop a s) t = etaN a t := fun t => by unfold etaN; rw [r0, r7]
  have eq1 : ∀ k t, k ≠ 19 → k ≠ 20 → quN (gPop a s) k t = quN a k t := fun k t h h' => by unfold quN; rw [r0, r k h h']
  have elt : ∀ t, lateN (gPop a s) t = lateN a t := fun t => by unfold lateN; rw [r0, r 8 (by decide) (by decide)]
  have ela : laN (gPop a s) = laN a := by unfold laN lgN kF; rw [r 4 (by decide) (by decide), r 11 (by decide) (by decide)]
  have eph : phN fl (gPop a s) ≤ phN fl a := by
    unfold phN
    rw [r0, r 3 (by decide) (by decide), eq1 10 1 (by decide) (by decide), eq1 9 1 (by decide) (by decide), eq1 10 0 (by decide) (by decide), ela, elt]
    exact phX_q pop_20
  -- the garbled numbers: one more, if it was garbled
  have hGL : ∃ G', DK (QL (gPop a s) s) (lgN a (1 - s)) (tn (a 5 s)) (tn (a 7 s)) (hN a s) G' (gz s) ∧ gqN (gPop a s) s G' ≤ gqN a s (gG s) := by
    by_cases cg : c % 2 = 1
    · refine ⟨cEn c :: gG s, DK_garbled dk, ?_⟩
      rw [e7]
      unfold gqN
      rw [q1]
      show _ + ((if decide (tn (a 7 s) < cEn c) = true then 1 else 0) + cntL _ (gG s)) ≤ ((if isG c = true then 1 else 0) + cntL isG (QL (gPop a s) s)) + cntL _ (gG s)
      rw [if_pos (isG_c.mpr cg)]
      split <;> omega
    · refine ⟨gG s, ?_, ?_⟩
      · have hoff : a 3 s = nI 0 := by
          by_cases c3 : a 3 s = nI 0
          · exact c3
          · refine absurd ⟨?_, Or.inl c3⟩ hin
            rw [hc]
            omega
        exact DK_off (doff hoff).1 (doff hoff).2 dk
      · rw [e7]
        unfold gqN
        rw [q1]
        show _ ≤ ((if isG c = true then 1 else 0) + cntL isG (QL (gPop a s) s)) + cntL _ (gG s)
        omega
  obtain ⟨G', dk', hgq⟩ := hGL
  refine ⟨sv_pop h1 hv, fun Y => if Y = s then popL (gL s) else gL Y, fun Y => if Y = s then b' else gb Y, gt, fun Y => if Y = s then G' else gG Y, gz, fun Y hY => ?_, ?_⟩
  · by_cases c1 : Y = s
    · subst c1
      simp only [if_true]
      unfold DI
      rw [ers, e4, r 5 (by decide) (by decide), r7, r 8 (by decide) (by decide), r0, r 3 (by decide) (by decide)]
      exact ⟨pq, DK_h (eh Y) dk', fun h => ⟨fun n => (eh Y n).trans ((doff h).1 n), (doff h).2⟩⟩
    · have : Y = 1 - s := by omega
      subst this
      simp only [if_neg c1]
      unfold DI
      rw [q2, e4, r 5 (by decide) (by decide), r7, r 8 (by decide) (by decide), r0, r 3 (by decide) (by decide)]
      exact ⟨DQ_r ero hDo.1, DK_h (eh _) hDo.2.1, fun h => ⟨fun n => (eh _ n).trans ((hDo.2.2 h).1 n), (hDo.2.2 h).2⟩⟩
  · obtain ⟨p1, p2, p3', p4'⟩ := hp
    obtain ⟨f1, f2⟩ := VS_eq (fl := fl) (a := a) (b := gPop a s) (r 4 (by decide) (by decide)) (r 11 (by decide) (by decide))
    have hgo : ∀ t, t < 2 → gqN (gPop a s) t (if t = s then G' else gG t) ≤ gqN a t (gG t) := fun t ht => by
      by_cases c1 : t = s
      · rw [if_pos c1, c1]; exact hgq
      · rw [if_neg c1, e7]
        have : t = 1 - s := by omega
        subst this
        unfold gqN
        rw [q2]
        exact Nat.le_refl _
    have x1 := VH_eq (fl := fl) (a := a) (b := gPop a s) (G := gG 1) (G' := if 1 = s then G' else gG 1) (r 4 (by decide) (by decide)) (r 11 (by decide) (by decide)) (by rw [r 5 (by decide) (by decide)]) (by rw [r0]) (r 24 (by decide) (by decide)) (r 26 (by decide) (by decide)) (r 27 (by decide) (by decide)) (r 28 (by decide) (by decide)) (r 34 (by decide) (by decide))
    have x2 := VT_le (fl := fl) (a := a) (b := gPop a s) (G := gG 0) (G' := if 0 = s then G' else gG 0) (r 4 (by decide) (by decide)) (r 11 (by decide) (by decide)) (by rw [r 5 (by decide) (by decide)]) (by rw [eq1 9 0 (by decide) (by decide)]; exact Nat.le_refl _) (by rw [eq1 10 0 (by decide) (by decide)]; exact Nat.le_refl _) (by rw [eq1 10 1 (by decide) (by decide)]; exact Nat.le_refl _) (by rw [elt]; exact Nat.le_refl _)
    have y1 := hgo 1 (by decide)
    have y0 := hgo 0 (by decide)
    rw [eeta] at x1 x2
    exact ⟨by show VH fl (gPop a s) (if 1 = s then G' else gG 1) + l1 ≤ _; omega, by show VT fl (gPop a s) (if 0 = s then G' else gG 0) + 10 * l0 + rem ≤ _; omega, by rw [f1]; exact p3', by rw [f2]; exact p4'⟩
