/-! Time passes: the class against the reference. -/
theorem gForgets_k (a : AS) (s k i : Nat) (h : k = 4 ∨ k = 0 ∨ k = 10 ∨ k = 9) : gForgets a s k i = a k i := by
  unfold gForgets
  simp (disch := omega) only [up2_n, zr, up1_n]
theorem gDown_4 (a : AS) (i : Nat) : gDown a 4 i = a 4 i := by
  unfold gDown
  rw [gForgets_k _ _ _ _ (Or.inl rfl), gForgets_k _ _ _ _ (Or.inl rfl)]
  simp (disch := omega) only [up2_n]
def gTkS (a : AS) (s : Nat) : AS × Nat := if a 3 s = nI 0 then (a, 0) else gWt a s
def sum4 (a : AS) : Nat := tn (a 4 0) + tn (a 4 1)
theorem sum4_of {a b : AS} (h : b 4 = a 4) : sum4 b = sum4 a := by unfold sum4; rw [h]
theorem sum4_send {a : AS} {s : Nat} {kd o1 o2 o3 o4 : Int32} (hs : s < 2) (h : roomS a s 1) : sum4 (gSends a s kd o1 o2 o3 o4) = sum4 a + 1 := by
  obtain ⟨n, c, e4, hn, -⟩ := h
  have e1 := gSends_4 a s n kd o1 o2 o3 o4 e4 (by omega)
  unfold sum4
  rcases (show s = 0 ∨ s = 1 by omega) with rfl | rfl
  · rw [e1, gSends_4o a kd o1 o2 o3 o4 (show 1 ≠ 0 by decide), e4, tnI (by omega), tnI (by omega)]; omega
  · rw [e1, gSends_4o a kd o1 o2 o3 o4 (show 0 ≠ 1 by decide), e4, tnI (by omega), tnI (by omega)]; omega
theorem k_tick37 {w s c : Nat} {μ1 : MP} {ν1 : NC} {b : AS} (hb : RR μ1 ν1 b) (hs : s < 2) (hr : roomS b s 1) : ∃ (μ' : MP) (ν' : NC), b_X8_tick_37 w μ1 ν1 (nI s) (s + 1) = some ((μ', ν'), 0) ∧ RR μ' ν' (gWt3 (gWt2 (b, c) s) s).1 ∧ ν'.2 20 = ν1.2 20 ∧ bal ν' (gWt3 (gWt2 (b, c) s) s).1 = bal ν1 b ∧ sum4 (gWt3 (gWt2 (b, c) s) s).1 + c = sum4 b + (gWt3 (gWt2 (b, c) s) s).2 ∧ ∀ c y : Int, RC c y ν1 → RC c y ν' := by
  obtain ⟨y1, y2, y3, y4, y5, -⟩ := hb.2.2.2.1 s hs
  have hnow1 : μ1.1 0 0 9 = b 0 1 := hb.2.2.1.2.1
  have w0 := hb.1.1
  have w1 := hb.1.2.1
  unfold b_X8_tick_37
  rw [ltt w0, nzs, Nat.add_sub_cancel, ltt (show s < ν1.2 1 by omega), hnow1, y5]
  simp only [cond_true, yl]
  by_cases d1 : b 0 1 - b 10 s = nI 15
  · have g2 : gWt2 (b, c) s = (gSends b s (nI 2) (nI 0) (nI 0) (nI 0) (nI 0), c + 1) := if_pos d1
    have e0 : gSends b s (nI 2) (nI 0) (nI 0) (nI 0) (nI 0) 0 1 = b 0 1 := gSends_k _ _ _ _ _ _ _ _ _ (by decide) (by decide) (by decide) (by decide) (by decide)
    have e10 : gSends b s (nI 2) (nI 0) (nI 0) (nI 0) (nI 0) 10 s = b 10 s := gSends_k _ _ _ _ _ _ _ _ _ (by decide) (by decide) (by decide) (by decide) (by decide)
    have h1525 : (nI 15 : Int32) < nI 25 := (nI_ltI (by decide) (by decide)).mpr (by decide)
    have hS := sum4_send (kd := nI 2) (o1 := nI 0) (o2 := nI 0) (o3 := nI 0) (o4 := nI 0) hs hr
    obtain ⟨μ', ν', t1, t2, t3, t4, t5, t6⟩ := k_sendN (w := w) (k := 2) hb hs hr (by decide)
    have hB := bal_send (ν := ν1) (kd := nI 2) (o1 := nI 0) (o2 := nI 0) (o3 := nI 0) (o4 := nI 0) (a := b) hs hr t3
    generalize gSends b s (nI 2) (nI 0) (nI 0) (nI 0) (nI 0) = G at *
    have g3 : gWt3 (G, c + 1) s = (G, c + 1) := if_pos (show G 0 1 - G 10 s < nI 25 by rw [e0, e10, d1]; exact h1525)
    rw [g2, g3, if_pos (show b 0 1 - b 10 s = (15 : Int32) from d1)]
    refine ⟨μ', ν', ?_, t2, t4, hB, ?_, t6⟩
    · rw [q2, t1]; rfl
    · show sum4 G + c = sum4 b + (c + 1)
      omega
  · have g2 : gWt2 (b, c) s = (b, c) := if_neg d1
    rw [g2, if_neg (show ¬ b 0 1 - b 10 s = (15 : Int32) from d1)]
    by_cases d2 : b 0 1 - b 10 s < nI 25
    · have g3 : gWt3 (b, c) s = (b, c) := if_pos d2
      rw [if_pos (show b 0 1 - b 10 s < (25 : Int32) from d2), g3]
      exact ⟨μ1, ν1, rfl, hb, rfl, rfl, rfl, fun _ _ h => h⟩
    · have g3 : gWt3 (b, c) s = (gDown b, c) := if_neg d2
      rw [if_neg (show ¬ b 0 1 - b 10 s < (25 : Int32) from d2), g3]
      obtain ⟨μ', t1, t2⟩ := k_down (w := w) hb
      have h4 : gDown b 4 = b 4 := funext fun i => gDown_4 _ i
      have hB := bal_of (ν := ν1) (ν' := ν1) rfl h4
      have hS := sum4_of h4
      generalize gDown b = G at *
      refine ⟨μ', ν1, ?_, t2, rfl, hB, ?_, fun _ _ h => h⟩
      · rw [t1]; rfl
      · show sum4 G + c = sum4 b + c
        rw [hS]
theorem k_tick {w s : Nat} {μ : MP} {ν : NC} {a : AS} (hR : RR μ ν a) (hs : s < 2) (hup : a 3 s ≠ nI 0 → a 0 2 ≠ nI 0) (hrm : a 3 s ≠ nI 0 → roomS a s 2) :
    ∃ (μ' : MP) (ν' : NC), f_X8_tick w μ ν (nI s) = some ((μ', ν'), 0) ∧ RR μ' ν' (gTkS a s).1 ∧ ν'.2 20 = ν.2 20 ∧ bal ν' (gTkS a s).1 = bal ν a ∧ sum4 (gTkS a s).1 = sum4 a + (gTkS a s).2 ∧ ∀ c y : Int, RC c y ν → RC c y ν' := by
  obtain ⟨z0, z1, z2, -⟩ := id hR.1
  obtain ⟨x1, x2, x3, x4, x5, x6, x7, x8⟩ := hR.2.2.2.1 s hs
  have hnow : μ.1 0 0 9 = a 0 1 := hR.2.2.1.2.1
  unfold f_X8_tick
  rw [ltt z0, k_party hR.1 hs]
  simp only [cond_true, Option.bind_some]
  rw [nzs, Nat.add_sub_cancel, ltt (show s < ν.2 1 by omega), x1]
  simp only [cond_true]
  by_cases c3 : a 3 s = nI 0
  · have g : gTkS a s = (a, 0) := if_pos c3
    rw [if_pos (show a 3 s = (0 : Int32) from c3), g]
    exact ⟨μ, ν, rfl, hR, rfl, rfl, (Nat.add_zero _).symm, fun _ _ h => h⟩
  · rw [if_neg (show ¬ a 3 s = (0 : Int32) from c3), hnow, x6 (hup c3)]
    have hrm2 := hrm c3
    by_cases c1 : a 0 1 - a 9 s < nI 10
    · have g1 : gWt1 (a, 0) s = (a, 0) := if_pos c1
      have g : gTkS a s = gWt3 (gWt2 (a, 0) s) s := by
        unfold gTkS
        rw [if_neg c3]
        unfold gWt
        rw [g1]
      rw [g, if_pos (show a 0 1 - a 9 s < (10 : Int32) from c1)]
      obtain ⟨μ2, ν2, r1, r2, r3, r4, r5, r6⟩ := k_tick37 (w := w) (c := 0) hR hs (roomS_le hrm2 (by decide))
      generalize gWt3 (gWt2 (a, 0) s) s = X at *
      exact ⟨μ2, ν2, r1, r2, r3, r4, (Nat.add_zero _).symm.trans r5, r6⟩
    · have g1 : gWt1 (a, 0) s = (gSends a s (nI 1) (nI 0) (nI 0) (nI 0) (nI 0), 0 + 1) := if_neg c1
      have g : gTkS a s = gWt3 (gWt2 (gSends a s (nI 1) (nI 0) (nI 0) (nI 0) (nI 0), 0 + 1) s) s := by
        unfold gTkS
        rw [if_neg c3]
        unfold gWt
        rw [g1]
      rw [g, if_neg (show ¬ a 0 1 - a 9 s < (10 : Int32) from c1)]
      obtain ⟨μ1, ν1, t1, t2, t3, t4, t5, t6⟩ := k_sendN (w := w) (k := 1) hR hs (roomS_le hrm2 (by decide)) (by decide)
      obtain ⟨μ2, ν2, r1, r2, r3, r4, r5, r6⟩ := k_tick37 (w := w) (c := 0 + 1) t2 hs (roomS_send hrm2)
      have hS := sum4_send (kd := nI 1) (o1 := nI 0) (o2 := nI 0) (o3 := nI 0) (o4 := nI 0) hs (roomS_le hrm2 (show 1 ≤ 2 by decide))
      have hB := bal_send (ν := ν) (kd := nI 1) (o1 := nI 0) (o2 := nI 0) (o3 := nI 0) (o4 := nI 0) (a := a) hs (roomS_le hrm2 (show 1 ≤ 2 by decide)) t3
      generalize gWt3 (gWt2 (gSends a s (nI 1) (nI 0) (nI 0) (nI 0) (nI 0), 0 + 1) s) s = X at *
      refine ⟨μ2, ν2, ?_, r2, r3.trans t4, r4.trans hB, ?_, fun c y h => r6 _ _ (t6 _ _ h)⟩
      · rw [q1, t1]; exact r1
      · rw [hS] at r5
        generalize sum4 X.1 = p at r5 ⊢
        generalize X.2 = q at r5 ⊢
        omega
theorem RR_now {μ : MP} {ν : NC} {a : AS} {v : Int32} (hR : RR μ ν a) : RR (uM μ 0 0 9 v) ν (up2 a 0 1 v) := by
  obtain ⟨g0, gF, g1, g2, g3, g4, g5, g6, g7, g8, g9⟩ := hR
  exact ⟨g0, gF, ⟨g1.1, (show (uM μ 0 0 9 v).1 0 0 9 = v by rw [uM_s, up1_s]).trans (up2_s _ _ _ _).symm, g1.2.2.1, g1.2.2.2⟩, g2, g3, g4, g5, g6, g7, g8, g9⟩
theorem RR_stop {μ : MP} {ν : NC} {a : AS} {v : Int32} (hR : RR μ ν a) : RR μ ν (up2 a 0 0 v) := by
  obtain ⟨g0, gF, g1, g2, g3, g4, g5, g6, g7, g8, g9⟩ := hR
  exact ⟨g0, gF, g1, g2, g3, g4, g5, g6, g7, g8, g9⟩
/-- what a tick wants of the class -/
def tickR (a : AS) : Prop := (gTk0 a 3 0 ≠ nI 0 → gTk0 a 0 2 ≠ nI 0 ∧ roomS (gTk0 a) 0 2) ∧ ((gTk1 a).1 3 1 ≠ nI 0 → (gTk1 a).1 0 2 ≠ nI 0 ∧ roomS (gTk1 a).1 1 2)
theorem k_passL {w t : Nat} (ht : t ≤ 50) : ∀ (d j m c0 : Nat) (b : Nat) (μ : MP) (ν : NC) (a : AS), RR μ ν a → j + d = t → d < m → sum4 a = b + c0 → b ≤ 20000 → (∀ i, i < d → ∀ c, tickR (gTkL i a c).1) →
    ∃ (μ' : MP) (ν' : NC), l_X8_pass_45 w m μ ν (nI t) (nI b) (nI j) = some ((μ', ν'), nI (gTkL d a c0).2) ∧ RR μ' ν' (gTkL d a c0).1 ∧ ν'.2 20 = ν.2 20 ∧ bal ν' (gTkL d a c0).1 = bal ν a ∧ ∀ c y : Int, RC c y ν → RC c y ν' := by
  intro d
  induction d with
  | zero =>
    intro j m c0 b μ ν a hR h1 h2 hc hb h3
    obtain ⟨m, rfl⟩ : ∃ m', m = m' + 1 := ⟨m - 1, by omega⟩
    obtain ⟨z0, z1, z2, z3, z4, -⟩ := id hR.1
    refine ⟨μ, ν, ?_, hR, rfl, rfl, fun _ _ h => h⟩
    show b_X8_pass_45 _ w μ ν _ _ _ = _
    obtain ⟨x0, n0, y0, v0, -⟩ := hR.2.2.2.2.1.1 0 (by decide)
    obtain ⟨x1, n1, y1, v1, -⟩ := hR.2.2.2.2.1.1 1 (by decide)
    unfold b_X8_pass_45
    rw [if_pos ((nI_leI (by omega) (by omega)).mpr (by omega)), ltt z0, ltt (show 0 < ν.2 1 by omega), ltt (show 0 < ν.2 4 by omega), ltt (show 1 < ν.2 1 by omega), ltt (show 1 < ν.2 4 by omega), x0, x1, y0, y1, nI_add]
    unfold sum4 at hc
    rw [y0, y1, tnI (by omega), tnI (by omega)] at hc
    rw [pk_sub (by omega), hc, show b + c0 - b = c0 by omega]
    rfl
  | succ d ih =>
    intro j m c0 b μ ν a hR h1 h2 hc hb h3
    obtain ⟨m, rfl⟩ : ∃ m', m = m' + 1 := ⟨m - 1, by omega⟩
    have hk := h3 0 (by omega) c0
    have hk : tickR a := hk
    have hind : ∀ (i : Nat) (x : AS) (c c' : Nat), (gTkL i x c).1 = (gTkL i x c').1 := by
      intro i
      induction i with
      | zero => intro x c c'; rfl
      | succ i ih2 => intro x c c'; exact ih2 _ _ _
    have hnow : μ.1 0 0 9 = a 0 1 := hR.2.2.1.2.1
    have hR0 : RR (uM μ 0 0 9 (μ.1 0 0 9 + 1)) ν (gTk0 a) := by rw [hnow]; exact RR_now hR
    obtain ⟨μ1, ν1, t1, t2, t3, t4, t5, t6⟩ := k_tick (w := w) (s := 0) hR0 (by decide) (fun h => (hk.1 h).1) (fun h => (hk.1 h).2)
    rw [show gTkS (gTk0 a) 0 = gTk1 a from rfl] at t2 t4 t5
    obtain ⟨μ2, ν2, r1, r2, r3, r4, r5, r6⟩ := k_tick (w := w) (s := 1) t2 (by decide) (fun h => (hk.2 h).1) (fun h => (hk.2 h).2)
    rw [show gTkS (gTk1 a).1 1 = gTk2 a from rfl] at r2 r4 r5
    have e04 : gTk0 a 4 = a 4 := funext fun i => up2_n _ _ (by omega)
    obtain ⟨μ3, ν3, u1, u2, u3, u4, u5⟩ := ih (j + 1) m (c0 + (gTk1 a).2 + (gTk2 a).2) b μ2 ν2 (gTk2 a).1 r2 (by omega) (by omega) (by
      rw [sum4_of e04] at t5
      generalize sum4 (gTk2 a).1 = p at r5 ⊢
      generalize sum4 (gTk1 a).1 = q at r5 t5 ⊢
      generalize (gTk2 a).2 = x at r5 ⊢
      generalize (gTk1 a).2 = y at t5 ⊢
      omega) hb (fun i hi c => by
      rw [hind i (gTk2 a).1 c (c + (gTk1 a).2 + (gTk2 a).2)]
      exact h3 (i + 1) (by omega) c)
    refine ⟨μ3, ν3, ?_, u2, by rw [u3, r3, t3], ?_, fun c y h => u5 _ _ (r6 _ _ (t6 _ _ h))⟩
    · show b_X8_pass_45 _ w μ ν _ _ _ = _
      unfold b_X8_pass_45
      rw [if_neg (fun h => by have := (nI_leI (by omega) (by omega)).mp h; omega), ltt hR.1.1]
      simp only [cond_true, yl]
      rw [q0, t1]
      simp only [Option.bind_some]
      unfold b_X8_pass_65
      rw [ltt t2.1.1, q1, r1]
      simp only [cond_true, Option.bind_some]
      unfold b_X8_pass_70
      simp only [yl]
      rw [q1, nI_add, u1]
      rfl
    · exact u4.trans (r4.trans (t4.trans (bal_of rfl e04)))
theorem k_pass {w t : Nat} {μ : MP} {ν : NC} {a : AS} (hR : RR μ ν a) (ht1 : 1 ≤ t) (ht : t ≤ 50) (hw : 100 < w) (h3 : ∀ i, i < t → ∀ c, tickR (gTkL i (up2 a 0 0 (nI 0)) c).1) :
    ∃ (μ' : MP) (ν' : NC), f_X8_pass w μ ν (nI t) = some (0, ((μ', ν'), nI (gPass a t).2)) ∧ RR μ' ν' (gPass a t).1 ∧ ν'.2 20 = ν.2 20 ∧ bal ν' (gPass a t).1 = bal ν a ∧ ∀ c y : Int, RC c y ν → RC c y ν' := by
  obtain ⟨z0, z1, z2, z3, z4, -⟩ := id hR.1
  obtain ⟨x0, n0, y0, v0, -⟩ := hR.2.2.2.2.1.1 0 (by decide)
  obtain ⟨x1, n1, y1, v1, -⟩ := hR.2.2.2.2.1.1 1 (by decide)
  have e4 : up2 a 0 0 (nI 0) 4 = a 4 := funext fun i => up2_n _ _ (by omega)
  obtain ⟨μ', ν', t1, t2, t3, t4, t5⟩ := k_passL (w := w) ht t 0 w 0 (n0 + n1) μ ν (up2 a 0 0 (nI 0)) (RR_stop hR) (by omega) (by omega) (by
    rw [sum4_of e4]
    unfold sum4
    rw [y0, y1, tnI (by omega), tnI (by omega), Nat.add_zero]) (by omega) h3
  refine ⟨μ', ν', ?_, t2, t3, t4.trans (bal_of rfl e4), t5⟩
  unfold f_X8_pass
  rw [if_neg (show ¬ nI t < (1 : Int32) from fun h => by have : t < 1 := (nI_ltI (show t < 2 ^ 31 by omega) (show 1 < 2 ^ 31 by decide)).mp h; omega), if_pos (show nI t ≤ (50 : Int32) from (nI_leI (show t < 2 ^ 31 by omega) (show 50 < 2 ^ 31 by decide)).mpr ht)]
  unfold b_X8_pass_21
  rw [ltt z0, ltt (show 0 < ν.2 1 by omega), ltt (show 0 < ν.2 4 by omega), ltt (show 1 < ν.2 1 by omega), ltt (show 1 < ν.2 4 by omega), x0, x1, y0, y1, nI_add]
  simp only [cond_true, yl]
  rw [show (0 : Int32) = nI 0 from rfl, t1]
  rfl
theorem k_passX {w : Nat} {μ : MP} {ν : NC} {x : Int32} (h : x < 1 ∨ 50 < x) : f_X8_pass w μ ν x = some (2, ((μ, ν), 0)) := by
  unfold f_X8_pass
  by_cases c : x < 1
  · rw [if_pos c]; rfl
  · rw [if_neg c, if_neg (Int32.not_le.mpr (h.resolve_left c))]; rfl
