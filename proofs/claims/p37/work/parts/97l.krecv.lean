/-! Messages come: the class against the reference. -/
theorem RR_p8 {μ : MP} {ν : NC} {a : AS} {s : Nat} {v : Int32} (hR : RR μ ν a) (hs : s < 2) : RR (uM μ 1 s 8 v) ν (up2 a 10 s v) := by
  obtain ⟨g0, gF, g1, g2, g3, g4, g5, g6, g7, g8, g9⟩ := hR
  refine ⟨g0, gF, g1, fun s' hs' => ?_, g3, g4, g5, g6, g7, g8, g9⟩
  obtain ⟨x1, x2, x3, x4, x5, x6, x7, x8⟩ := g2 s' hs'
  by_cases c : s' = s
  · subst c
    rw [uM_s]
    exact ⟨x1, x2, x3, x4, (up1_s _ _ _).trans (up2_s _ _ _ _).symm, x6, x7, x8⟩
  · rw [uM_n _ _ _ (by omega)]
    exact ⟨x1, x2, x3, x4, x5.trans (up2_n _ _ (by omega)).symm, x6, x7, x8⟩
theorem RR_p3 {μ : MP} {ν : NC} {a : AS} {s : Nat} {v : Int32} (hR : RR μ ν a) (hs : s < 2) (hv : v = nI 0 ∨ v = nI 1) : RR (uM μ 1 s 3 v) ν (up2 a 3 s v) := by
  obtain ⟨g0, gF, g1, g2, g3, g4, g5, g6, g7, g8, g9⟩ := hR
  refine ⟨g0, gF, g1, fun s' hs' => ?_, g3, g4, g5, g6, g7, g8, g9⟩
  obtain ⟨x1, x2, x3, x4, x5, x6, x7, x8⟩ := g2 s' hs'
  by_cases c : s' = s
  · subst c
    rw [uM_s]
    refine ⟨(up1_s _ _ _).trans (up2_s _ _ _ _).symm, x2, x3, x4, x5, x6, ?_, x8⟩
    rw [up2_s]; exact hv
  · rw [uM_n _ _ _ (by omega)]
    have e : up2 a 3 s v 3 s' = a 3 s' := up2_n _ _ (by omega)
    rw [e]
    exact ⟨x1, x2, x3, x4, x5, x6, x7, x8⟩
theorem gAnswers_k (a : AS) (s g k i : Nat) (h1 : k ≠ 29) (h2 : k ≠ 21) (h3 : k ≠ 20) (h4 : k ≠ 9) (h5 : k ≠ 13) : gAnswers a s g k i = a k i := by
  have hL : ∀ (d n : Nat) (x : AS × Nat), (gAnsL s d n x).1 k i = x.1 k i := by
    intro d
    induction d with
    | zero => intro n x; rfl
    | succ d ih =>
      intro n x
      show (gAnsL s d (n + 1) (gAns1 s x n)).1 k i = _
      rw [ih, gAns1_k _ _ _ _ _ h1 h2 h3 h4 h5]
  unfold gAnswers gAnsE
  split
  · rw [gGoes_k _ _ _ _ _ _ h2 h3 h4]; exact hL _ _ _
  · exact hL _ _ _
theorem gCmB_k (a : AS) (s n f k i : Nat) (h1 : k ≠ 29) (h2 : k ≠ 21) (h3 : k ≠ 20) (h4 : k ≠ 9) (h5 : k ≠ 13) (h6 : k ≠ 10) (h7 : k ≠ 3) : gCmB a s n f k i = a k i := by
  unfold gCmB
  split
  · rw [gAnswers_k _ _ _ _ _ h1 h2 h3 h4 h5, gCmA_k _ _ _ _ _ _ h6 h7]
  · exact gCmA_k _ _ _ _ _ _ h6 h7
theorem bal_ask {ν ν' : NC} {a : AS} {s : Nat} (hs : s < 2) (h : roomS a s 1) (h6 : ν'.2 6 = ν.2 6 + (if a 7 s = a 5 s ∧ a 0 1 - a 8 s < nI 5 then 0 else 1)) : bal ν' (gAsk a s) = bal ν a := by
  unfold gAsk
  by_cases c : a 7 s = a 5 s ∧ a 0 1 - a 8 s < nI 5
  · rw [if_pos c] at h6 ⊢
    exact bal_of h6 rfl
  · rw [if_neg c] at h6 ⊢
    have h' : roomS (up2 (up2 a 7 s (a 5 s)) 8 s (a 0 1)) s 1 := roomS_of h (by rw [up2_n _ _ (by omega), up2_n _ _ (by omega)]) (by rw [up2_n _ _ (by omega), up2_n _ _ (by omega)])
    exact (bal_send (ν := ν) hs h' h6).trans (bal_of rfl (funext fun i => by rw [up2_n _ _ (by omega), up2_n _ _ (by omega)]))
/-- what an answer needs -/
def rsOk (a : AS) (s n f : Nat) : Prop := f = 0 → a 11 (8192 * (1 - s) + n) = nI 3 → ∃ g c : Nat, a 14 (8192 * (1 - s) + n) = nI g ∧ g ≤ 8191 ∧ a 20 (1 - s) = nI c ∧ c + ansN s (tn (a 4 s) + 1 - max g 1) (max g 1) (gCmA a s n f, 0) ≤ 65536 ∧ ordIn a s
theorem k_recv {w s n f S E : Nat} {μ : MP} {ν : NC} {a : AS} (hR : RR μ ν a) (hs : s < 2) (hw : 8200 < w) (h1 : 1 ≤ n) (hn : n ≤ S) (hS : S ≤ 8190) (e4 : a 4 (1 - s) = nI S) (hf : f ≤ 8191) (hf1 : f ≠ 1) (e5 : a 5 s = nI E) (hE : E ≤ 8191) (hkd : f = 0 → ∃ kd : Nat, a 11 (8192 * (1 - s) + n) = nI kd ∧ kd ≤ 8 ∧ kd ≠ 4) (hans : rsOk a s n f) (hrm : E < n → roomS (gCmB a s n f) s 1) (hin : ¬ a 3 s = nI 0 ∨ (f = 0 ∧ a 11 (8192 * (1 - s) + n) = nI 0)) :
    ∃ (μ' : MP) (ν' : NC), f_X8_receive w μ ν (nI s) (nI n) (if f = 0 then nI 1 else nI f) = some ((μ', ν'), if n = E then nI 1 else nI 0) ∧ RR μ' ν' (if E < n then gAsk (gHold (gCmB a s n f) s n f) s else gCmB a s n f) ∧ ν'.2 20 = ν.2 20 ∧ bal ν' (if E < n then gAsk (gHold (gCmB a s n f) s n f) s else gCmB a s n f) = bal ν a ∧ ∀ c d : Int, RC c d ν → RC c d ν' := by
  obtain ⟨z0, z1, z2, z3, z4, z5, -⟩ := id hR.1
  obtain ⟨m, t1, t2, t3, t4⟩ := k_msg (w := w) (s := 1 - s) (n := n) hR (by omega) h1 (by rw [e4, tnI (by omega)]; exact hn)
  have hnow : μ.1 0 0 9 = a 0 1 := hR.2.2.1.2.1
  have m13 : μ.1 1 s 3 = a 3 s := (hR.2.2.2.1 s hs).1
  have e60 : μ.1 6 m 0 = a 11 (8192 * (1 - s) + n) := t4.1
  have z68 := hR.1.2.2.2.2.2.2.2.2.2.2.2.2.2.2.2.2.1
  generalize hx3 : (if f = 0 then nI 1 else nI f : Int32) = x3
  have hx1 : x3 = (1 : Int32) ↔ f = 0 := by
    rw [← hx3]
    by_cases c : f = 0
    · rw [if_pos c]; exact ⟨fun _ => c, fun _ => rfl⟩
    · rw [if_neg c]
      exact ⟨fun h => absurd ((nI_eq (show f < 2 ^ 31 by omega) (by decide)).mp (show nI f = nI 1 from h)) hf1, fun h => absurd h c⟩
  obtain ⟨kd, hk0⟩ : ∃ kd : Nat, kd ≤ 8 ∧ (f = 0 → a 11 (8192 * (1 - s) + n) = nI kd ∧ kd ≠ 4) ∧ (f ≠ 0 → kd = 4) := by
    by_cases c : f = 0
    · obtain ⟨kd, k1, k2, k3⟩ := hkd c
      exact ⟨kd, k2, fun _ => ⟨k1, k3⟩, fun h => absurd c h⟩
    · exact ⟨4, by omega, fun h => absurd h c, fun _ => rfl⟩
  obtain ⟨hk8, hkf, hkn⟩ := hk0
  -- up to the number
  have h124 : ∀ (μ2 : MP) (ν2 : NC), 2 ≤ ν2.2 1 → μ2.1 1 s 4 = nI E → b_X8_receive_124 w μ2 ν2 (nI n) (s + 1) = some ((μ2, ν2), if n = E then nI 1 else nI 0) := fun μ2 ν2 hz he => by
    unfold b_X8_receive_124
    rw [nzs, Nat.add_sub_cancel, ltt (show s < ν2.2 1 by omega), he]
    simp only [cond_true]
    by_cases c : n = E
    · rw [if_pos (by rw [c]), if_pos c]; rfl
    · rw [if_neg (fun h => c ((nI_eq (by omega) (by omega)).mp h)), if_neg c]; rfl
  have h100 : ∀ (μ2 : MP) (ν2 : NC) (b : AS), RR μ2 ν2 b → b 5 s = nI E → (E < n → roomS b s 1) → ∃ (μ' : MP) (ν' : NC), b_X8_receive_100 w μ2 ν2 (nI s) (nI n) x3 (s + 1) = some ((μ', ν'), if n = E then nI 1 else nI 0) ∧ RR μ' ν' (if E < n then gAsk (gHold b s n f) s else b) ∧ ν'.2 20 = ν2.2 20 ∧ bal ν' (if E < n then gAsk (gHold b s n f) s else b) = bal ν2 b ∧ ∀ c d : Int, RC c d ν2 → RC c d ν' := fun μ2 ν2 b hb b5 brm => by
    have y1 := hb.1.2.1
    have y3 := hb.1.2.2.2.1
    have he : μ2.1 1 s 4 = nI E := (hb.2.2.2.1 s hs).2.1.trans b5
    unfold b_X8_receive_100
    rw [nzs, Nat.add_sub_cancel, ltt (show s < ν2.2 1 by omega), he]
    simp only [cond_true]
    by_cases c : E < n
    · rw [if_neg (fun h => by have := (nI_leI (by omega) (by omega)).mp h; omega), if_pos c, ltt (show s < ν2.2 3 by omega), ltt hb.1.1]
      simp only [cond_true]
      obtain ⟨μ3, ν3, r1, r2, r3, r4⟩ := k_hold (w := w) (n := n) (f := f) hb hs (by omega) hf hf1
      obtain ⟨nn, cc, g1, g2, g3, g4⟩ := brm c
      have hk : ∀ k, k ≠ 6 → k ≠ 18 → gHold b s n f k = b k := fun k k1 k2 => by
        unfold gHold; funext i; rw [up2_n _ _ (by omega), up2_n _ _ (by omega)]
      have hk5 : gHold b s n f 5 s = nI E := by rw [hk 5 (by decide) (by decide)]; exact b5
      obtain ⟨μ4, ν4, u1, u2, u3, u4, u5, u7⟩ := k_ask (w := w) (n := nn) r2 hs (by rw [hk 4 (by decide) (by decide)]; exact g1) (by omega) (fun _ => ⟨cc, by rw [hk 20 (by decide) (by decide)]; exact g3, by omega⟩)
      have e5' : gAsk (gHold b s n f) s 5 s = nI E := by
        unfold gAsk
        split
        · exact hk5
        · rw [gSends_k _ _ _ _ _ _ _ _ _ (by decide) (by decide) (by decide) (by decide) (by decide), up2_n _ _ (by omega), up2_n _ _ (by omega)]; exact hk5
      have hex : b_X8_receive_119 w μ3 ν3 (nI s) (nI n) (s + 1) = some ((μ4, ν4), if n = E then nI 1 else nI 0) := by
        unfold b_X8_receive_119
        rw [ltt r2.1.1, decide_eq_true (show s + 1 ≤ ν3.2 1 by rw [r3]; omega), u1]
        simp only [cond_true, Option.bind_some]
        exact h124 μ4 ν4 u2.1.2.1 ((u2.2.2.2.1 s hs).2.1.trans e5')
      refine ⟨μ4, ν4, ?_, u2, by rw [u3, r3], ?_, fun c d h => u7 _ _ (r4 _ _ h)⟩
      · rw [← hx3, r1]
        simp only [Option.bind_some]
        exact hex
      · have hrm' : roomS (gHold b s n f) s 1 := roomS_of (brm c) (by rw [hk 4 (by decide) (by decide)]) (by rw [hk 20 (by decide) (by decide)])
        refine (bal_ask hs hrm' u5).trans (bal_of (by rw [r3]) (hk 4 (by decide) (by decide)))
    · rw [if_pos ((nI_leI (by omega) (by omega)).mpr (by omega)), if_neg c]
      exact ⟨μ2, ν2, h124 μ2 ν2 y1 he, hb, rfl, rfl, fun _ _ h => h⟩
  -- what is done ahead of it
  have hRA : RR (uM μ 1 s 8 (a 0 1)) ν (up2 a 10 s (a 0 1)) := RR_p8 hR hs
  have h59 : ∃ (μ' : MP) (ν' : NC), b_X8_receive_59 w μ ν (nI s) (nI n) x3 (s + 1) (m + 1) (nI kd) = some ((μ', ν'), if n = E then nI 1 else nI 0) ∧ RR μ' ν' (if E < n then gAsk (gHold (gCmB a s n f) s n f) s else gCmB a s n f) ∧ ν'.2 20 = ν.2 20 ∧ bal ν' (if E < n then gAsk (gHold (gCmB a s n f) s n f) s else gCmB a s n f) = bal ν a ∧ ∀ c d : Int, RC c d ν → RC c d ν' := by
    have gE : gCmB a s n f 5 s = nI E := (gCmB_k _ _ _ _ _ _ (by decide) (by decide) (by decide) (by decide) (by decide) (by decide) (by decide)).trans e5
    have g4 : gCmB a s n f 4 = a 4 := funext fun i => gCmB_k _ _ _ _ _ _ (by decide) (by decide) (by decide) (by decide) (by decide) (by decide) (by decide)
    unfold b_X8_receive_59
    rw [ltt z0, nzs, nzs, Nat.add_sub_cancel, Nat.add_sub_cancel, ltt (show s < ν.2 1 by omega), ltt t3, hnow]
    simp only [cond_true, yl]
    by_cases c0 : kd = 0
    · subst c0
      have hf0 : f = 0 := Classical.byContradiction fun h => absurd (hkn h) (by decide)
      obtain ⟨k1, k2⟩ := hkf hf0
      rw [if_pos (show nI 0 = (0 : Int32) from rfl)]
      have hg : gCmB a s n f = up2 (up2 a 10 s (a 0 1)) 3 s (nI 1) := by
        unfold gCmB
        rw [if_neg (fun h => by rw [k1] at h; exact absurd h.2 (by decide))]
        unfold gCmA
        rw [if_pos ⟨hf0, k1⟩]
      have hRB : RR (uM (uM μ 1 s 8 (a 0 1)) 1 s 3 1) ν (gCmB a s n f) := by rw [hg]; exact RR_p3 hRA hs (Or.inr rfl)
      obtain ⟨μ', ν', r1, r2, r3, r4, r5⟩ := h100 _ ν (gCmB a s n f) hRB gE hrm
      exact ⟨μ', ν', r1, r2, r3, r4.trans (bal_of rfl g4), r5⟩
    · rw [if_neg (show ¬ nI kd = (0 : Int32) from nIne (by omega) (by decide) c0)]
      have hgA : gCmA a s n f = up2 a 10 s (a 0 1) := by
        unfold gCmA
        rw [if_neg (fun h => c0 ((nI_eq (by omega) (by decide)).mp ((hkf h.1).1.symm.trans h.2)))]
      by_cases c3 : kd = 3
      · subst c3
        have hf0 : f = 0 := Classical.byContradiction fun h => absurd (hkn h) (by decide)
        obtain ⟨k1, k2⟩ := hkf hf0
        obtain ⟨g, cc, j1, j2, j3, j4, j5⟩ := hans hf0 k1
        obtain ⟨-, -, -, nb, fb, L1, L2, L3, L4⟩ := id t4
        obtain ⟨b0, b1, b2⟩ := body3 L4 k1
        have hv := k_fld (w := w) (μ := uM μ 1 s 8 (a 0 1)) (i := 0) (tag := 7) t3 z68 L1 L2 (fun j hj => by rw [uM_n _ _ _ (by omega)]; exact L3 j hj) (by omega) b1 (by decide) (fun i' h => by omega) (by omega)
        rw [show fb (2 * 0 + 1) = nI g from b2.trans j1] at hv
        rw [if_pos (show nI 3 = (3 : Int32) from rfl), show (7 : Int32) = nI 7 from rfl, hv]
        simp only [Option.bind_some]
        rw [hgA] at j4
        obtain ⟨μ2, ν2, r1, r2, r3, r4⟩ := k_answer (w := w) (g := g) (c := cc) hRA hs (by rw [up2_n _ _ (by omega)]; exact n8190 hR s hs) j2 (by rw [up2_n _ _ (by omega)]; exact j3) (by rw [up2_n a _ (show ¬ (4 = 10 ∧ s = s) by omega)]; exact j4) (fun n' p1 p2 p3 => by
          rw [up2_n _ _ (by omega)] at p2 p3
          obtain ⟨o, q1, q2⟩ := j5 n' p1 p2 p3
          exact ⟨o, by rw [up2_n _ _ (by omega)]; exact q1, by rw [up2_n _ _ (by omega)]; exact q2⟩) (by omega)
        rw [r1]
        simp only [Option.bind_some]
        have hg : gCmB a s n f = gAnswers (up2 a 10 s (a 0 1)) s g := by
          unfold gCmB
          rw [if_pos ⟨hf0, k1⟩, hgA, j1, tnI (by omega)]
        rw [← hg] at r2
        obtain ⟨μ', ν', u1, u2, u3, u4, u5⟩ := h100 μ2 ν2 (gCmB a s n f) r2 gE hrm
        exact ⟨μ', ν', u1, u2, by rw [u3, r3], u4.trans (bal_of (by rw [r3]) g4), fun c d h => u5 _ _ (r4 _ _ h)⟩
      · rw [if_neg (show ¬ nI kd = (3 : Int32) from nIne (by omega) (by decide) c3)]
        have hg : gCmB a s n f = up2 a 10 s (a 0 1) := by
          unfold gCmB
          rw [if_neg (fun h => c3 ((nI_eq (by omega) (by decide)).mp ((hkf h.1).1.symm.trans h.2))), hgA]
        rw [← hg] at hRA
        obtain ⟨μ', ν', r1, r2, r3, r4, r5⟩ := h100 _ ν (gCmB a s n f) hRA gE hrm
        exact ⟨μ', ν', r1, r2, r3, r4.trans (bal_of rfl g4), r5⟩
  have h42 : f_X8_receive w μ ν (nI s) (nI n) x3 = b_X8_receive_42 w μ ν (nI s) (nI n) x3 (s + 1) (m + 1) (nI kd) := by
    unfold f_X8_receive
    rw [ltt z0, k_party hR.1 hs, k_other hs]
    simp only [cond_true, Option.bind_some]
    rw [k_party hR.1 (show 1 - s < 2 by omega)]
    simp only [Option.bind_some]
    rw [nzs, Nat.add_sub_cancel, ltt (show 1 - s < ν.2 1 by omega), t1]
    simp only [cond_true, Option.bind_some]
    rw [if_neg (Nat.succ_ne_zero m), Nat.add_sub_cancel, ltt t3, e60]
    by_cases c : f = 0
    · rw [if_pos (hx1.mpr c), (hkf c).1]; rfl
    · rw [if_neg (fun h => c (hx1.mp h)), hkn c]; rfl
  rw [h42]
  unfold b_X8_receive_42
  rw [nzs, Nat.add_sub_cancel, ltt (show s < ν.2 1 by omega), m13]
  simp only [cond_true]
  by_cases c : a 3 s = nI 0
  · rw [if_pos (show a 3 s = (0 : Int32) from c)]
    rcases hin with h | ⟨h, h'⟩
    · exact absurd c h
    · have : kd = 0 := (nI_eq (by omega) (by decide)).mp ((hkf h).1.symm.trans h')
      subst this
      rw [if_pos (show nI 0 = (0 : Int32) from rfl)]
      exact h59
  · rw [if_neg (show ¬ a 3 s = (0 : Int32) from c)]
    exact h59
theorem k_out {w s n f S : Nat} {μ : MP} {ν : NC} {a : AS} (hR : RR μ ν a) (hs : s < 2) (h1 : 1 ≤ n) (hn : n ≤ S) (hS : S ≤ 8190) (e4 : a 4 (1 - s) = nI S) (hf : f ≤ 8191) (hf1 : f ≠ 1) (hin : a 3 s = nI 0 ∧ ¬ (f = 0 ∧ a 11 (8192 * (1 - s) + n) = nI 0)) :
    f_X8_receive w μ ν (nI s) (nI n) (if f = 0 then nI 1 else nI f) = some ((μ, ν), nI 0) := by
  obtain ⟨z0, z1, z2, z3, z4, z5, -⟩ := id hR.1
  obtain ⟨m, t1, t2, t3, t4⟩ := k_msg (w := w) (s := 1 - s) (n := n) hR (by omega) h1 (by rw [e4, tnI (by omega)]; exact hn)
  have m13 : μ.1 1 s 3 = a 3 s := (hR.2.2.2.1 s hs).1
  have e60 : μ.1 6 m 0 = a 11 (8192 * (1 - s) + n) := t4.1
  have h42 : ∀ s0 : Int32, ¬ s0 = nI 0 → b_X8_receive_42 w μ ν (nI s) (nI n) (if f = 0 then nI 1 else nI f) (s + 1) (m + 1) s0 = some ((μ, ν), nI 0) := fun s0 h0 => by
    unfold b_X8_receive_42
    rw [nzs, Nat.add_sub_cancel, ltt (show s < ν.2 1 by omega), m13, if_pos (show a 3 s = (0 : Int32) from hin.1), if_neg (show ¬ s0 = (0 : Int32) from h0)]
    rfl
  unfold f_X8_receive
  rw [ltt z0, k_party hR.1 hs, k_other hs]
  simp only [cond_true, Option.bind_some]
  rw [k_party hR.1 (show 1 - s < 2 by omega)]
  simp only [Option.bind_some]
  rw [nzs, Nat.add_sub_cancel, ltt (show 1 - s < ν.2 1 by omega), t1]
  simp only [cond_true, Option.bind_some]
  rw [if_neg (Nat.succ_ne_zero m), Nat.add_sub_cancel, ltt t3, e60]
  simp only [cond_true]
  by_cases c : f = 0
  · subst c
    rw [if_pos rfl, if_pos (show nI 1 = (1 : Int32) from rfl)]
    exact h42 _ (fun h => hin.2 ⟨rfl, h⟩)
  · rw [if_neg c, if_neg (show ¬ nI f = (1 : Int32) from fun h => hf1 ((nI_eq (show f < 2 ^ 31 by omega) (by decide)).mp (show nI f = nI 1 from h)))]
    have := h42 (4 : Int32) (by decide)
    rw [if_neg c] at this
    exact this
/-- the first message is taken off the way -/
theorem k_pop {w s : Nat} {μ : MP} {ν : NC} {a : AS} (hR : RR μ ν a) (hs : s < 2) (h1 : 1 ≤ tn (a 20 s)) :
    ∃ (μ' : MP) (n f g : Nat), f_X7_numberAt w μ ν s 0 = some (nI n) ∧ f_X7_nextAt w μ ν s 0 = some (if f = 0 then nI 1 else nI f) ∧ f_X7_isGarbledAt w μ ν s 0 = some (nI g) ∧ f_X7_dropFirst w μ ν s = some (μ', 0) ∧ wyE a s = 2 * (8192 * n + f) + g ∧ n ≤ 8190 ∧ f ≤ 8191 ∧ f ≠ 1 ∧ g < 2 ∧ RR μ' ν (gPop a s) := by
  obtain ⟨h, c, H, x1, x2, x3, x4, x5, x6, x7, x8, x9, x10, x11, x12, x13, x14⟩ := hR.2.2.2.2.2.1 s hs
  obtain ⟨-, -, z2, -, -, -, z10, z11, z12, -⟩ := id hR.1
  rw [x4, tnI (by omega)] at h1
  obtain ⟨n, f, g, y1, y2, y3, y4, y5, y6, y7, y8⟩ := x14 0 (by omega)
  have hsl : sl (ν.1 10 s) h 0 = h := by unfold sl; rw [if_pos (by omega)]; omega
  rw [hsl] at y5 y6 y7
  have hs0 : f_X7_slotOf w μ ν s 0 = some (nI h) := by
    unfold f_X7_slotOf
    rw [if_neg (by decide), ltt (show s < ν.2 2 by omega), x2, if_pos (show (0 : Int32) < nI c from (nI_ltI (by decide) (by omega)).mpr h1), x1, ltt (show s < ν.2 10 by omega)]
    simp only [cond_true, yl]
    rw [q0, nI_add, Nat.add_zero, if_neg (fun hh => by have := (nI_leI (by omega) (by omega)).mp hh; omega)]
  have hs1 : f_X7_slotOf w μ ν s 1 = some (nI (if 1 < c then sl (ν.1 10 s) h 1 else 0)) := by
    unfold f_X7_slotOf
    rw [if_neg (by decide), ltt (show s < ν.2 2 by omega), x2]
    simp only [cond_true]
    by_cases hc : 1 < c
    · rw [if_pos (show (1 : Int32) < nI c from (nI_ltI (by decide) (by omega)).mpr hc), x1, ltt (show s < ν.2 10 by omega), if_pos hc]
      simp only [cond_true, yl]
      rw [q1, nI_add]
      unfold sl
      by_cases hh : h + 1 < ν.1 10 s
      · rw [if_pos hh, if_neg (fun h2 => by have := (nI_leI (by omega) (by omega)).mp h2; omega)]
      · rw [if_neg hh, if_pos ((nI_leI (by omega) (by omega)).mpr (by omega)), pk_sub (by omega)]
    · rw [if_neg (show ¬ (1 : Int32) < nI c from fun h2 => hc ((nI_ltI (by decide) (by omega)).mp h2)), if_neg hc]
      rfl
  have hb2 : boB (nI g) = true := by
    rcases (show g = 0 ∨ g = 1 by omega) with rfl | rfl <;> rfl
  refine ⟨uM (uM μ 2 s 3 (nI (if 1 < c then sl (ν.1 10 s) h 1 else 0))) 2 s 4 (nI (c - 1)), n, f, g, ?_, ?_, ?_, ?_, ?_, y1, y2, y3, y4, ?_⟩
  · unfold f_X7_numberAt
    rw [ltt (show s < ν.2 2 by omega), hs0, ltt (show s < ν.2 10 by omega)]
    simp only [cond_true, Option.bind_some]
    rw [ixn (by omega) (by omega), nI_clamp (by omega), y5]
    rfl
  · unfold f_X7_nextAt
    rw [ltt (show s < ν.2 2 by omega), hs0, ltt (show s < ν.2 11 by omega)]
    simp only [cond_true, Option.bind_some]
    rw [ixn (by omega) (by omega), nI_clamp (by omega), y6]
    rfl
  · unfold f_X7_isGarbledAt
    rw [ltt (show s < ν.2 2 by omega), hs0, ltt (show s < ν.2 12 by omega)]
    simp only [cond_true, Option.bind_some]
    rw [ixn (by omega) (by omega), nI_clamp (by omega), y7, hb2]
    rfl
  · unfold f_X7_dropFirst
    rw [ltt (show s < ν.2 2 by omega), x2, if_neg (show ¬ nI c ≤ (0 : Int32) from fun hh => by have : c ≤ 0 := (nI_leI (show c < 2 ^ 31 by omega) (show 0 < 2 ^ 31 by decide)).mp hh; omega), hs1]
    simp only [cond_true, Option.bind_some, yl]
    have e : (uM μ 2 s 3 (nI (if 1 < c then sl (ν.1 10 s) h 1 else 0))).1 2 s 4 = nI c := by rw [uM_s, up1_n _ _ (by decide)]; exact x2
    rw [e, q1, pk_sub h1]
  · unfold wyE pl
    rw [x3, tnI (by omega), y8, tnI (by omega)]
  · have hH : tn (a 19 s) = H := by rw [x3, tnI (by omega)]
    have hC : tn (a 20 s) = c := by rw [x4, tnI (by omega)]
    have hg : gPop a s = up2 (up2 a 19 s (nI ((H + 1) % 65536))) 20 s (nI (c - 1)) := by unfold gPop; rw [hH, hC]
    rw [hg]
    have u2 : (uM (uM μ 2 s 3 (nI (if 1 < c then sl (ν.1 10 s) h 1 else 0))) 2 s 4 (nI (c - 1))).1 2 s = up1 (up1 (μ.1 2 s) 3 (nI (if 1 < c then sl (ν.1 10 s) h 1 else 0))) 4 (nI (c - 1)) := by rw [uM_s, uM_s]
    have un : ∀ k i, ¬ (k = 2 ∧ i = s) → (uM (uM μ 2 s 3 (nI (if 1 < c then sl (ν.1 10 s) h 1 else 0))) 2 s 4 (nI (c - 1))).1 k i = μ.1 k i := fun k i hk => by rw [uM_n _ _ _ (by omega), uM_n _ _ _ (by omega)]
    generalize hμ' : uM (uM μ 2 s 3 (nI (if 1 < c then sl (ν.1 10 s) h 1 else 0))) 2 s 4 (nI (c - 1)) = μ' at u2 un ⊢
    refine RR_way hR (fun k k1 k2 k3 k4 => funext fun i => un k i (by omega)) (by rw [← hμ']; rfl) rfl (fun _ _ _ _ _ => rfl) (fun k k1 k2 k3 => funext fun i => by rw [up2_n _ _ (by omega), up2_n _ _ (by omega)]) ?_
    intro t ht
    by_cases ct : t = s
    · subst ct
      rw [u2, un 10 t (by omega), un 11 t (by omega), un 12 t (by omega)]
      refine ⟨if 1 < c then sl (ν.1 10 t) h 1 else 0, c - 1, (H + 1) % 65536, by rw [up1_n _ _ (by decide), up1_s], up1_s _ _ _, by rw [up2_n _ _ (by omega), up2_s], up2_s _ _ _ _, Nat.mod_lt _ (by decide), by omega, ?_, by omega, x9, x10, x11, x12, x13, fun k hk => ?_⟩
      · unfold sl
        repeat' split
        all_goals omega
      · obtain ⟨n', f', g', j1, j2, j3, j4, j5, j6, j7, j8⟩ := x14 (k + 1) (by omega)
        have hsl' : sl (ν.1 10 t) (if 1 < c then sl (ν.1 10 t) h 1 else 0) k = sl (ν.1 10 t) h (k + 1) := by
          rw [if_pos (by omega)]
          unfold sl
          repeat' split
          all_goals omega
        rw [hsl']
        refine ⟨n', f', g', j1, j2, j3, j4, j5, j6, j7, ?_⟩
        rw [up2_n _ _ (by omega), up2_n _ _ (by omega), ← j8]
        exact congrArg (a 21) (by omega)
    · rw [un 2 t (by omega), un 10 t (by omega), un 11 t (by omega), un 12 t (by omega)]
      obtain ⟨h', c', H', q⟩ := hR.2.2.2.2.2.1 t ht
      have e19 : up2 (up2 a 19 s (nI ((H + 1) % 65536))) 20 s (nI (c - 1)) 19 t = a 19 t := by rw [up2_n _ _ (by omega), up2_n _ _ (by omega)]
      have e20 : up2 (up2 a 19 s (nI ((H + 1) % 65536))) 20 s (nI (c - 1)) 20 t = a 20 t := by rw [up2_n _ _ (by omega), up2_n _ _ (by omega)]
      rw [e19, e20]
      exact ⟨h', c', H', q⟩
/-- what a turn of coming wants -/
def coOk (a : AS) (s S : Nat) (P : AS → Prop) : Prop := 1 ≤ tn (a 20 s) ∧ 1 ≤ wyE a s / 2 / 8192 ∧ wyE a s / 2 / 8192 ≤ S ∧ a 4 (1 - s) = nI S ∧ (isIn a s → ∃ E : Nat, a 5 s = nI E ∧ 1 ≤ E ∧ E ≤ 8191 ∧ (wyE a s / 2 % 8192 = 0 → ∃ kd : Nat, a 11 (8192 * (1 - s) + wyE a s / 2 / 8192) = nI kd ∧ kd ≤ 8 ∧ kd ≠ 4) ∧ rsOk (gPop a s) s (wyE a s / 2 / 8192) (wyE a s / 2 % 8192) ∧
  (E < wyE a s / 2 / 8192 → roomS (gCmB (gPop a s) s (wyE a s / 2 / 8192) (wyE a s / 2 % 8192)) s 1) ∧
  (wyE a s / 2 / 8192 = E → (∀ i, i < E → a 18 (8192 * s + i) = nI 0) ∧ (wyE a s / 2 % 8192 = 0 → twOk (up2 (gCmB (gPop a s) s E 0) 5 s (nI (E + 1))) s (8192 * (1 - s) + E)) ∧ P (gThrow (gTakes (gCmB (gPop a s) s E (wyE a s / 2 % 8192)) s E (wyE a s / 2 % 8192)) s)))
theorem k_come1 {w s S C j : Nat} {μ : MP} {ν : NC} {a : AS} {K : MP → NC → Int32 → Nat → Int32 → Int32 → Option ((MP × NC) × Int32)} (hR : RR μ ν a) (hs : s < 2) (hw : 8200 < w) (hS : S ≤ 8190) (hC : C ≤ 100) (hj : j < C) (P : AS → Prop) (hP : ∀ a, P a → wiOk a s S) (hN : ∀ a, P a → ¬ a 18 (8192 * s + tn (a 5 s)) ≤ nI 0 → P (gHd1 a s)) (h : coOk a s S P) :
    ∃ (μ' : MP) (ν' : NC), b_X8_come_47 K w μ ν (nI s) (s + 1) (nI C) (nI j) = K μ' ν' (nI s) (s + 1) (nI C) (nI (j + 1)) ∧ RR μ' ν' (gCome1 a s) ∧ ν'.2 20 = ν.2 20 ∧ bal ν' (gCome1 a s) = bal ν a ∧ ∀ c d : Int, RC c d ν → RC c d ν' := by
  obtain ⟨h20, hn1, hnS, e4, hii⟩ := h
  obtain ⟨μ1, n, f, g, t1, t2, t3, t4, t5, t6, t7, t8, t9, t10⟩ := k_pop (w := w) hR hs h20
  obtain ⟨z0, z1, z2, -⟩ := id hR.1
  have en : wyE a s / 2 / 8192 = n := by omega
  have ef : wyE a s / 2 % 8192 = f := by omega
  rw [en, ef] at hii
  rw [en] at hn1 hnS
  have pk : ∀ k, k ≠ 19 ∧ k ≠ 20 → gPop a s k = a k := fun k hk => by
    unfold gPop; funext i; rw [up2_n _ _ (by omega), up2_n _ _ (by omega)]
  have hpre : b_X8_come_47 K w μ ν (nI s) (s + 1) (nI C) (nI j) = (if nI g = (0 : Int32) then (f_X8_receive w μ1 ν (nI s) (nI n) (if f = 0 then nI 1 else nI f)).bind (fun v16 => b_X8_come_93 K w v16.1.1 v16.1.2 (nI s) (s + 1) (nI C) (nI j) (if f = 0 then nI 1 else nI f) v16.2) else b_X8_come_103 K w μ1 ν (nI s) (s + 1) (nI C) (nI j)) := by
    unfold b_X8_come_47
    rw [if_neg (fun hh => by have := (nI_leI (by omega) (by omega)).mp hh; omega), nzs, Nat.add_sub_cancel, ltt (show s < ν.2 2 by omega), t1, t2, t3, t4, ltt z0]
    rfl
  have h103 : ∀ (μ2 : MP) (ν2 : NC), b_X8_come_103 K w μ2 ν2 (nI s) (s + 1) (nI C) (nI j) = K μ2 ν2 (nI s) (s + 1) (nI C) (nI (j + 1)) := fun μ2 ν2 => by
    unfold b_X8_come_103
    simp only [yl]
    rw [q1, nI_add]
  have hiE : isIn a s ↔ (g = 0 ∧ (¬ a 3 s = nI 0 ∨ (f = 0 ∧ a 11 (8192 * (1 - s) + n) = nI 0))) := by
    unfold isIn
    rw [ef, en]
    exact ⟨fun h => ⟨by have := h.1; omega, h.2⟩, fun h => ⟨by have := h.1; omega, h.2⟩⟩
  have gE : gCome1 a s = @ite _ (isIn a s) (Classical.propDecidable _) (gComes (gPop a s) s n f) (gPop a s) := by unfold gCome1; rw [en, ef]
  rw [hpre, gE]
  by_cases cg : g = 0
  · subst cg
    rw [if_pos (show nI 0 = (0 : Int32) from rfl)]
    by_cases ci : isIn a s
    · rw [if_pos ci]
      obtain ⟨E, e5, hE1, hE2, hkd, hans, hrm, heq⟩ := hii ci
      have e5' : gPop a s 5 s = nI E := by rw [pk 5 (by decide)]; exact e5
      have e4' : gPop a s 4 (1 - s) = nI S := by rw [pk 4 (by decide)]; exact e4
      obtain ⟨μ2, ν2, r1, r2, r3, r4, r5⟩ := k_recv (w := w) (n := n) (f := f) (S := S) (E := E) t10 hs hw hn1 hnS hS e4' t7 t8 e5' hE2 (fun h => by rw [pk 11 (by decide)]; exact hkd h) hans hrm (by rw [pk 3 (by decide), pk 11 (by decide)]; exact (hiE.mp ci).2)
      rw [r1]
      simp only [Option.bind_some]
      have b5 : gCmB (gPop a s) s n f 5 s = nI E := (gCmB_k _ _ _ _ _ _ (by decide) (by decide) (by decide) (by decide) (by decide) (by decide) (by decide)).trans e5'
      have hgc : gComes (gPop a s) s n f = (if E < n then gAsk (gHold (gCmB (gPop a s) s n f) s n f) s else if n = E then gHeld (gTakes (gCmB (gPop a s) s n f) s n f) s else gCmB (gPop a s) s n f) := by
        unfold gComes gCmC
        rw [b5, tnI (by omega)]
      rw [hgc]
      by_cases cE : n = E
      · subst cE
        rw [if_neg (Nat.lt_irrefl n)] at r2 r4
        rw [if_neg (Nat.lt_irrefl n), if_pos rfl, if_pos rfl]
        obtain ⟨hz, htw, hp⟩ := heq rfl
        obtain ⟨μ3, ν3, u1, u2, u3, u4, u5⟩ := k_turn (w := w) (f := f) r2 hs hw b5 hn1 hnS hS ((gCmB_k _ _ _ _ _ _ (by decide) (by decide) (by decide) (by decide) (by decide) (by decide) (by decide)).trans e4') t7 t8 (fun i hi => by
          rw [gCmB_k _ _ _ _ _ _ (by decide) (by decide) (by decide) (by decide) (by decide) (by decide) (by decide), pk 18 (by decide)]; exact hz i hi) (fun h => by rw [h]; exact htw h) P hP hN hp
        refine ⟨μ3, ν3, ?_, u2, by rw [u3, r3], ?_, fun c d h => u5 _ _ (r5 _ _ h)⟩
        · unfold b_X8_come_93
          rw [if_neg (show ¬ nI 1 = (0 : Int32) by decide), ltt r2.1.1, decide_eq_true (show s + 1 ≤ ν2.2 2 by have := r2.1.2.2.1; omega), u1]
          simp only [cond_true, Option.bind_some]
          exact h103 _ _
        · exact u4.trans (r4.trans (bal_of rfl (pk 4 (by decide))))
      · rw [if_neg cE, if_neg cE]
        refine ⟨μ2, ν2, ?_, r2, r3, r4.trans (bal_of rfl (pk 4 (by decide))), r5⟩
        unfold b_X8_come_93
        rw [if_pos (show nI 0 = (0 : Int32) from rfl)]
        exact h103 _ _
    · rw [if_neg ci]
      have hno : a 3 s = nI 0 ∧ ¬ (f = 0 ∧ a 11 (8192 * (1 - s) + n) = nI 0) := by
        by_cases c3 : a 3 s = nI 0
        · exact ⟨c3, fun h => ci (hiE.mpr ⟨rfl, Or.inr h⟩)⟩
        · exact absurd (hiE.mpr ⟨rfl, Or.inl c3⟩) ci
      rw [k_out t10 hs hn1 hnS hS (by rw [pk 4 (by decide)]; exact e4) t7 t8 (by rw [pk 3 (by decide), pk 11 (by decide)]; exact hno)]
      refine ⟨μ1, ν, ?_, t10, rfl, bal_of rfl (pk 4 (by decide)), fun _ _ h => h⟩
      simp only [Option.bind_some]
      unfold b_X8_come_93
      rw [if_pos (show nI 0 = (0 : Int32) from rfl)]
      exact h103 _ _
  · rw [if_neg (show ¬ nI g = (0 : Int32) from nIne (by omega) (by decide) cg), if_neg (fun h => cg (hiE.mp h).1)]
    exact ⟨μ1, ν, h103 _ _, t10, rfl, bal_of rfl (pk 4 (by decide)), fun _ _ h => h⟩
/-- coming, as often as is asked -/
theorem k_comeL {w s S C : Nat} (hs : s < 2) (hw : 8200 < w) (hS : S ≤ 8190) (hC : C ≤ 100) (P : AS → Prop) (hP : ∀ a, P a → wiOk a s S) (hN : ∀ a, P a → ¬ a 18 (8192 * s + tn (a 5 s)) ≤ nI 0 → P (gHd1 a s)) : ∀ (d j m : Nat) (μ : MP) (ν : NC) (a : AS), RR μ ν a → j + d = C → d < m → (∀ i, i < d → coOk (gComeL s i a) s S P) →
    ∃ (μ' : MP) (ν' : NC), l_X8_come_47 w m μ ν (nI s) (s + 1) (nI C) (nI j) = some ((μ', ν'), nI C) ∧ RR μ' ν' (gComeL s d a) ∧ ν'.2 20 = ν.2 20 ∧ bal ν' (gComeL s d a) = bal ν a ∧ ∀ c y : Int, RC c y ν → RC c y ν' := by
  intro d
  induction d with
  | zero =>
    intro j m μ ν a hR h1 h2 h3
    obtain ⟨m, rfl⟩ : ∃ m', m = m' + 1 := ⟨m - 1, by omega⟩
    refine ⟨μ, ν, ?_, hR, rfl, rfl, fun _ _ h => h⟩
    show b_X8_come_47 _ w μ ν _ _ _ _ = _
    unfold b_X8_come_47
    rw [if_pos ((nI_leI (by omega) (by omega)).mpr (by omega))]
  | succ d ih =>
    intro j m μ ν a hR h1 h2 h3
    obtain ⟨m, rfl⟩ : ∃ m', m = m' + 1 := ⟨m - 1, by omega⟩
    obtain ⟨μ1, ν1, t1, t2, t3, t4, t5⟩ := k_come1 (w := w) (C := C) (j := j) (K := l_X8_come_47 w m) hR hs hw hS hC (by omega) P hP hN (h3 0 (by omega))
    obtain ⟨μ2, ν2, r1, r2, r3, r4, r5⟩ := ih (j + 1) m μ1 ν1 (gCome1 a s) t2 (by omega) (by omega) (fun i hi => h3 (i + 1) (by omega))
    exact ⟨μ2, ν2, by rw [← r1, ← t1]; rfl, r2, r3.trans t3, r4.trans t4, fun c y h => r5 _ _ (t5 _ _ h)⟩
