/-! Messages come: the class against the reference. -/
theorem RR_p8 {μ : MP} {ν : NC} {a : AS} {s : Nat} {v : Int32} (hR : RR μ ν a) (hs : s < 2) : RR (uM μ 1 s 8 v) ν (up2 a 10 s v) := by
  obtain ⟨g0, gF, g1, g2, g3, g4, g5, g6, g7, g8, g9⟩ := hR
  refine ⟨g0, gF, g1, fun s' hs' => ?_, g3, g4, g5, g6, g7, g8, g9⟩
  obtain ⟨x1, x2, x3, x4, x5, x6, x7, x8⟩ := g2 s' hs'
  by_cases c : s' = s
  · subst c
    rw [uM_s]
    exact ⟨x1, x2, x3, x4, (up1_s _ _ _).trans (up2_s _ _ _ _).symm, x6, x7, x8⟩
  · rw [uM_n _ _ _ (by omega)]
    exact ⟨x1, x2, x3, x4, x5.trans (up2_n _ _ (by omega)).symm, x6, x7, x8⟩
theorem RR_p3 {μ : MP} {ν : NC} {a : AS} {s : Nat} {v : Int32} (hR : RR μ ν a) (hs : s < 2) (hv : v = nI 0 ∨ v = nI 1) : RR (uM μ 1 s 3 v) ν (up2 a 3 s v) := by
  obtain ⟨g0, gF, g1, g2, g3, g4, g5, g6, g7, g8, g9⟩ := hR
  refine ⟨g0, gF, g1, fun s' hs' => ?_, g3, g4, g5, g6, g7, g8, g9⟩
  obtain ⟨x1, x2, x3, x4, x5, x6, x7, x8⟩ := g2 s' hs'
  by_cases c : s' = s
  · subst c
    rw [uM_s]
    refine ⟨(up1_s _ _ _).trans (up2_s _ _ _ _).symm, x2, x3, x4, x5, x6, ?_, x8⟩
    rw [up2_s]; exact hv
  · rw [uM_n _ _ _ (by omega)]
    have e : up2 a 3 s v 3 s' = a 3 s' := up2_n _ _ (by omega)
    rw [e]
    exact ⟨x1, x2, x3, x4, x5, x6, x7, x8⟩
theorem gAnswers_k (a : AS) (s g k i : Nat) (h1 : k ≠ 29) (h2 : k ≠ 21) (h3 : k ≠ 20) (h4 : k ≠ 9) (h5 : k ≠ 13) : gAnswers a s g k i = a k i := by
  have hL : ∀ (d n : Nat) (x : AS × Nat), (gAnsL s d n x).1 k i = x.1 k i := by
    intro d
    induction d with
    | zero => intro n x; rfl
    | succ d ih =>
      intro n x
      show (gAnsL s d (n + 1) (gAns1 s x n)).1 k i = _
      rw [ih, gAns1_k _ _ _ _ _ h1 h2 h3 h4 h5]
  unfold gAnswers gAnsE
  split
  · rw [gGoes_k _ _ _ _ _ _ h2 h3 h4]; exact hL _ _ _
  · exact hL _ _ _
theorem gCmB_k (a : AS) (s n f k i : Nat) (h1 : k ≠ 29) (h2 : k ≠ 21) (h3 : k ≠ 20) (h4 : k ≠ 9) (h5 : k ≠ 13) (h6 : k ≠ 10) (h7 : k ≠ 3) : gCmB a s n f k i = a k i := by
  unfold gCmB
  split
  · rw [gAnswers_k _ _ _ _ _ h1 h2 h3 h4 h5, gCmA_k _ _ _ _ _ _ h6 h7]
  · exact gCmA_k _ _ _ _ _ _ h6 h7
theorem bal_ask {ν ν' : NC} {a : AS} {s : Nat} (hs : s < 2) (h : roomS a s 1) (h6 : ν'.2 6 = ν.2 6 + (if a 7 s = a 5 s ∧ a 0 1 - a 8 s < nI 5 then 0 else 1)) : bal ν' (gAsk a s) = bal ν a := by
  unfold gAsk
  by_cases c : a 7 s = a 5 s ∧ a 0 1 - a 8 s < nI 5
  · rw [if_pos c] at h6 ⊢
    exact bal_of h6 rfl
  · rw [if_neg c] at h6 ⊢
    have h' : roomS (up2 (up2 a 7 s (a 5 s)) 8 s (a 0 1)) s 1 := roomS_of h (by rw [up2_n _ _ (by omega), up2_n _ _ (by omega)]) (by rw [up2_n _ _ (by omega), up2_n _ _ (by omega)])
    exact (bal_send (ν := ν) hs h' h6).trans (bal_of rfl (funext fun i => by rw [up2_n _ _ (by omega), up2_n _ _ (by omega)]))
/-- what an answer needs -/
def rsOk (a : AS) (s n f : Nat) : Prop := f = 0 → a 11 (8192 * (1 - s) + n) = nI 3 → ∃ g c : Nat, a 14 (8192 * (1 - s) + n) = nI g ∧ g ≤ 8191 ∧ a 20 (1 - s) = nI c ∧ c + ansN s (tn (a 4 s) + 1 - max g 1) (max g 1) (gCmA a s n f, 0) ≤ 65536 ∧ ordIn a s
theorem k_recv {w s n f S E : Nat} {μ : MP} {ν : NC} {a : AS} (hR : RR μ ν a) (hs : s < 2) (hw : 8200 < w) (h1 : 1 ≤ n) (hn : n ≤ S) (hS : S ≤ 8190) (e4 : a 4 (1 - s) = nI S) (hf : f ≤ 8191) (hf1 : f ≠ 1) (e5 : a 5 s = nI E) (hE : E ≤ 8191) (hkd : f = 0 → ∃ kd : Nat, a 11 (8192 * (1 - s) + n) = nI kd ∧ kd ≤ 8 ∧ kd ≠ 4) (hans : rsOk a s n f) (hrm : E < n → roomS (gCmB a s n f) s 1) (hin : ¬ a 3 s = nI 0 ∨ (f = 0 ∧ a 11 (8192 * (1 - s) + n) = nI 0)) :
    ∃ (μ' : MP) (ν' : NC), f_X8_receive w μ ν (nI s) (nI n) (if f = 0 then nI 1 else nI f) = some ((μ', ν'), if n = E then nI 1 else nI 0) ∧ RR μ' ν' (if E < n then gAsk (gHold (gCmB a s n f) s n f) s else gCmB a s n f) ∧ ν'.2 20 = ν.2 20 ∧ bal ν' (if E < n then gAsk (gHold (gCmB a s n f) s n f) s else gCmB a s n f) = bal ν a ∧ ∀ c d : Int, RC c d ν → RC c d ν' := by
  obtain ⟨z0, z1, z2, z3, z4, z5, -⟩ := id hR.1
  obtain ⟨m, t1, t2, t3, t4⟩ := k_msg (w := w) (s := 1 - s) (n := n) hR (by omega) h1 (by rw [e4, tnI (by omega)]; exact hn)
  have hnow : μ.1 0 0 9 = a 0 1 := hR.2.2.1.2.1
  have m13 : μ.1 1 s 3 = a 3 s := (hR.2.2.2.1 s hs).1
  have e60 : μ.1 6 m 0 = a 11 (8192 * (1 - s) + n) := t4.1
  have z68 := hR.1.2.2.2.2.2.2.2.2.2.2.2.2.2.2.2.2.1
  generalize hx3 : (if f = 0 then nI 1 else nI f : Int32) = x3
  have hx1 : x3 = (1 : Int32) ↔ f = 0 := by
    rw [← hx3]
    by_cases c : f = 0
    · rw [if_pos c]; exact ⟨fun _ => c, fun _ => rfl⟩
    · rw [if_neg c]
      exact ⟨fun h => absurd ((nI_eq (show f < 2 ^ 31 by omega) (by decide)).mp (show nI f = nI 1 from h)) hf1, fun h => absurd h c⟩
  obtain ⟨kd, hk0⟩ : ∃ kd : Nat, kd ≤ 8 ∧ (f = 0 → a 11 (8192 * (1 - s) + n) = nI kd ∧ kd ≠ 4) ∧ (f ≠ 0 → kd = 4) := by
    by_cases c : f = 0
    · obtain ⟨kd, k1, k2, k3⟩ := hkd c
      exact ⟨kd, k2, fun _ => ⟨k1, k3⟩, fun h => absurd c h⟩
    · exact ⟨4, by omega, fun h => absurd h c, fun _ => rfl⟩
  obtain ⟨hk8, hkf, hkn⟩ := hk0
  -- up to the number
  have h124 : ∀ (μ2 : MP) (ν2 : NC), 2 ≤ ν2.2 1 → μ2.1 1 s 4 = nI E → b_X8_receive_124 w μ2 ν2 (nI n) (s + 1) = some ((μ2, ν2), if n = E then nI 1 else nI 0) := fun μ2 ν2 hz he => by
    unfold b_X8_receive_124
    rw [nzs, Nat.add_sub_cancel, ltt (show s < ν2.2 1 by omega), he]
    simp only [cond_true]
    by_cases c : n = E
    · rw [if_pos (by rw [c]), if_pos c]; rfl
    · rw [if_neg (fun h => c ((nI_eq (by omega) (by omega)).mp h)), if_neg c]; rfl
  have h100 : ∀ (μ2 : MP) (ν2 : NC) (b : AS), RR μ2 ν2 b → b 5 s = nI E → (E < n → roomS b s 1) → ∃ (μ' : MP) (ν' : NC), b_X8_receive_100 w μ2 ν2 (nI s) (nI n) x3 (s + 1) = some ((μ', ν'), if n = E then nI 1 else nI 0) ∧ RR μ' ν' (if E < n then gAsk (gHold b s n f) s else b) ∧ ν'.2 20 = ν2.2 20 ∧ bal ν' (if E < n then gAsk (gHold b s n f) s else b) = bal ν2 b ∧ ∀ c d : Int, RC c d ν2 → RC c d ν' := fun μ2 ν2 b hb b5 brm => by
    have y1 := hb.1.2.1
    have y3 := hb.1.2.2.2.1
    have he : μ2.1 1 s 4 = nI E := (hb.2.2.2.1 s hs).2.1.trans b5
    unfold b_X8_receive_100
    rw [nzs, Nat.add_sub_cancel, ltt (show s < ν2.2 1 by omega), he]
    simp only [cond_true]
    by_cases c : E < n
    · rw [if_neg (fun h => by have := (nI_leI (by omega) (by omega)).mp h; omega), if_pos c, ltt (show s < ν2.2 3 by omega), ltt hb.1.1]
      simp only [cond_true]
      obtain ⟨μ3, ν3, r1, r2, r3, r4⟩ := k_hold (w := w) (n := n) (f := f) hb hs (by omega) hf hf1
      obtain ⟨nn, cc, g1, g2, g3, g4⟩ := brm c
      have hk : ∀ k, k ≠ 6 → k ≠ 18 → gHold b s n f k = b k := fun k k1 k2 => by
        unfold gHold; funext i; rw [up2_n _ _ (by omega), up2_n _ _ (by omega)]
      have hk5 : gHold b s n f 5 s = nI E := by rw [hk 5 (by decide) (by decide)]; exact b5
      obtain ⟨μ4, ν4, u1, u2, u3, u4, u5, u7⟩ := k_ask (w := w) (n := nn) r2 hs (by rw [hk 4 (by decide) (by decide)]; exact g1) (by omega) (fun _ => ⟨cc, by rw [hk 20 (by decide) (by decide)]; exact g3, by omega⟩)
      have e5' : gAsk (gHold b s n f) s 5 s = nI E := by
        unfold gAsk
        split
        · exact hk5
        · rw [gSends_k _ _ _ _ _ _ _ _ _ (by decide) (by decide) (by decide) (by decide) (by decide), up2_n _ _ (by omega), up2_n _ _ (by omega)]; exact hk5
      have hex : b_X8_receive_119 w μ3 ν3 (nI s) (nI n) (s + 1) = some ((μ4, ν4), if n = E then nI 1 else nI 0) := by
        unfold b_X8_receive_119
        rw [ltt r2.1.1, decide_eq_true (show s + 1 ≤ ν3.2 1 by rw [r3]; omega), u1]
        simp only [cond_true, Option.bind_some]
        exact h124 μ4 ν4 u2.1.2.1 ((u2.2.2.2.1 s hs).2.1.trans e5')
      refine ⟨μ4, ν4, ?_, u2, by rw [u3, r3], ?_, fun c d h => u7 _ _ (r4 _ _ h)⟩
      · rw [← hx3, r1]
        simp only [Option.bind_some]
        exact hex
      · have hrm' : roomS (gHold b s n f) s 1 := roomS_of (brm c) (by rw [hk 4 (by decide) (by decide)]) (by rw [hk 20 (by decide) (by decide)])
        refine (bal_ask hs hrm' u5).trans (bal_of (by rw [r3]) (hk 4 (by decide) (by decide)))
    · rw [if_pos ((nI_leI (by omega) (by omega)).mpr (by omega)), if_neg c]
      exact ⟨μ2, ν2, h124 μ2 ν2 y1 he, hb, rfl, rfl, fun _ _ h => h⟩
  -- what is done ahead of it
  have hRA : RR (uM μ 1 s 8 (a 0 1)) ν (up2 a 10 s (a 0 1)) := RR_p8 hR hs
  have h59 : ∃ (μ' : MP) (ν' : NC), b_X8_receive_59 w μ ν (nI s) (nI n) x3 (s + 1) (m + 1) (nI kd) = some ((μ', ν'), if n = E then nI 1 else nI 0) ∧ RR μ' ν' (if E < n then gAsk (gHold (gCmB a s n f) s n f) s else gCmB a s n f) ∧ ν'.2 20 = ν.2 20 ∧ bal ν' (if E < n then gAsk (gHold (gCmB a s n f) s n f) s else gCmB a s n f) = bal ν a ∧ ∀ c d : Int, RC c d ν → RC c d ν' := by
    have gE : gCmB a s n f 5 s = nI E := (gCmB_k _ _ _ _ _ _ (by decide) (by decide) (by decide) (by decide) (by decide) (by decide) (by decide)).trans e5
    have g4 : gCmB a s n f 4 = a 4 := funext fun i => gCmB_k _ _ _ _ _ _ (by decide) (by decide) (by decide) (by decide) (by decide) (by decide) (by decide)
    unfold b_X8_receive_59
    rw [ltt z0, nzs, nzs, Nat.add_sub_cancel, Nat.add_sub_cancel, ltt (show s < ν.2 1 by omega), ltt t3, hnow]
    simp only [cond_true, yl]
    by_cases c0 : kd = 0
    · subst c0
      have hf0 : f = 0 := Classical.byContradiction fun h => absurd (hkn h) (by decide)
      obtain ⟨k1, k2⟩ := hkf hf0
      rw [if_pos (show nI 0 = (0 : Int32) from rfl)]
      have hg : gCmB a s n f = up2 (up2 a 10 s (a 0 1)) 3 s (nI 1) := by
        unfold gCmB
        rw [if_neg (fun h => by rw [k1] at h; exact absurd h.2 (by decide))]
        unfold gCmA
        rw [if_pos ⟨hf0, k1⟩]
      have hRB : RR (uM (uM μ 1 s 8 (a 0 1)) 1 s 3 1) ν (gCmB a s n f) := by rw [hg]; exact RR_p3 hRA hs (Or.inr rfl)
      obtain ⟨μ', ν', r1, r2, r3, r4, r5⟩ := h100 _ ν (gCmB a s n f) hRB gE hrm
      exact ⟨μ', ν', r1, r2, r3, r4.trans (bal_of rfl g4), r5⟩
    · rw [if_neg (show ¬ nI kd = (0 : Int32) from nIne (by omega) (by decide) c0)]
      have hgA : gCmA a s n f = up2 a 10 s (a 0 1) := by
        unfold gCmA
        rw [if_neg (fun h => c0 ((nI_eq (by omega) (by decide)).mp ((hkf h.1).1.symm.trans h.2)))]
      by_cases c3 : kd = 3
      · subst c3
        have hf0 : f = 0 := Classical.byContradiction fun h => absurd (hkn h) (by decide)
        obtain ⟨k1, k2⟩ := hkf hf0
        obtain ⟨g, cc, j1, j2, j3, j4, j5⟩ := hans hf0 k1
        obtain ⟨-, -, -, nb, fb, L1, L2, L3, L4⟩ := id t4
        obtain ⟨b0, b1, b2⟩ := body3 L4 k1
        have hv := k_fld (w := w) (μ := uM μ 1 s 8 (a 0 1)) (i := 0) (tag := 7) t3 z68 L1 L2 (fun j hj => by rw [uM_n _ _ _ (by omega)]; exact L3 j hj) (by omega) b1 (by decide) (fun i' h => by omega) (by omega)
        rw [show fb (2 * 0 + 1) = nI g from b2.trans j1] at hv
        rw [if_pos (show nI 3 = (3 : Int32) from rfl), show (7 : Int32) = nI 7 from rfl, hv]
        simp only [Option.bind_some]
        rw [hgA] at j4
        obtain ⟨μ2, ν2, r1, r2, r3, r4⟩ := k_answer (w := w) (g := g) (c := cc) hRA hs (by rw [up2_n _ _ (by omega)]; exact n8190 hR s hs) j2 (by rw [up2_n _ _ (by omega)]; exact j3) (by rw [up2_n a _ (show ¬ (4 = 10 ∧ s = s) by omega)]; exact j4) (fun n' p1 p2 p3 => by
          rw [up2_n _ _ (by omega)] at p2 p3
          obtain ⟨o, q1, q2⟩ := j5 n' p1 p2 p3
          exact ⟨o, by rw [up2_n _ _ (by omega)]; exact q1, by rw [up2_n _ _ (by omega)]; exact q2⟩) (by omega)
        rw [r1]
        simp only [Option.bind_some]
        have hg : gCmB a s n f = gAnswers (up2 a 10 s (a 0 1)) s g := by
          unfold gCmB
          rw [if_pos ⟨hf0, k1⟩, hgA, j1, tnI (by omega)]
        rw [← hg] at r2
        obtain ⟨μ', ν', u1, u2, u3, u4, u5⟩ := h100 μ2 ν2 (gCmB a s n f) r2 gE hrm
        exact ⟨μ', ν', u1, u2, by rw [u3, r3], u4.trans (bal_of (by rw [r3]) g4), fun c d h => u5 _ _ (r4 _ _ h)⟩
      · rw [if_neg (show ¬ nI kd = (3 : Int32) from nIne (by omega) (by decide) c3)]
        have hg : gCmB a s n f = up2 a 10 s (a 0 1) := by
          unfold gCmB
          rw [if_neg (fun h => c3 ((nI_eq (by omega) (by decide)).mp ((hkf h.1).1.symm.trans h.2))), hgA]
        rw [← hg] at hRA
        obtain ⟨μ', ν', r1, r2, r3, r4, r5⟩ := h100 _ ν (gCmB a s n f) hRA gE hrm
        exact ⟨μ', ν', r1, r2, r3, r4.trans (bal_of rfl g4), r5⟩
  have h42 : f_X8_receive w μ ν (nI s) (nI n) x3 = b_X8_receive_42 w μ ν (nI s) (nI n) x3 (s + 1) (m + 1) (nI kd) := by
    unfold f_X8_receive
    rw [ltt z0, k_party hR.1 hs, k_other hs]
    simp only [cond_true, Option.bind_some]
    rw [k_party hR.1 (show 1 - s < 2 by omega)]
    simp only [Option.bind_some]
    rw [nzs, Nat.add_sub_cancel, ltt (show 1 - s < ν.2 1 by omega), t1]
    simp only [cond_true, Option.bind_some]
    rw [if_neg (Nat.succ_ne_zero m), Nat.add_sub_cancel, ltt t3, e60]
    by_cases c : f = 0
    · rw [if_pos (hx1.mpr c), (hkf c).1]; rfl
    · rw [if_neg (fun h => c (hx1.mp h)), hkn c]; rfl
  rw [h42]
  unfold b_X8_receive_42
  rw [nzs, Nat.add_sub_cancel, ltt (show s < ν.2 1 by omega), m13]
  simp only [cond_true]
  by_cases c : a 3 s = nI 0
  · rw [if_pos (show a 3 s = (0 : Int32) from c)]
    rcases hin with h | ⟨h, h'⟩
    · exact absurd c h
    · have : kd = 0 := (nI_eq (by omega) (by decide)).mp ((hkf h).1.symm.trans h')
      subst this
      rw [if_pos (show nI 0 = (0 : Int32) from rfl)]
      exact h59
  · rw [if_neg (show ¬ a 3 s = (0 : Int32) from c)]
    exact h59
