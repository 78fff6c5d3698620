/-! An answer's step, its loop. -/
variable {Hh : Nat → Nat}
theorem lcv_w (w : Nat) (hw : w < 2) : lcv (nL w) (0 : Int64) = (0 : Int32) ↔ w = 0 := by
  rw [lcv_0, show (0 : Int64) = nL 0 from rfl, nL_inj (by omega) (by decide)]
theorem an_83 {w s G N n kd : Nat} {C : Int64} {b a : AS} {k15 : AS → Int32 → Int32 → Int32 → Int32 → Option (AS × Int32)} (h : LR Hh b a) (hs : s < 2) (hn1 : 1 ≤ n) (hn : n ≤ tn (a 4 s)) (hn2 : n < 64) (hG : G < 64) (hk2 : kd < 16) (hc : tn (a 20 (1 - s)) + 2 ≤ 240) (ek : a 11 (8192 * s + n) = nI kd) (ho : ¬ old a (8192 * s + n)) : ∃ b', b_L_answer_83 k15 w b (nI s) (nI G) (nI N) (nI n) C (nI kd) = k15 b' (nI s) (nI (gAns1 s (a, G) n).2) (nI N) (nI (n + 1)) ∧ LR Hh b' (gAns1 s (a, G) n).1 := by
  have el : gLeave a (8192 * s + n) = a := if_neg ho
  unfold b_L_answer_83 b_L_answer_84
  rw [if_pos rfl]
  by_cases c : 5 ≤ kd
  · have hst : ¬ stays a (8192 * s + n) := fun z => z.elim (fun z => by rw [ek, nI_ltI (by omega) (by decide)] at z; omega) ho
    have e : gAns1 s (a, G) n = (gGoes (up2 (if 0 < G then gGoes a s G n else a) 13 (8192 * s + n) (nI 1)) s n 0, 0) := by
      unfold gAns1
      rw [if_neg hst]
      dsimp only
      rw [el]
    rw [e]
    exact an_105 h hs hn1 hn hn2 hG c hk2 hc
  · have hst : stays a (8192 * s + n) := Or.inl (by rw [ek, nI_ltI (by omega) (by decide)]; omega)
    have e : gAns1 s (a, G) n = (a, if G = 0 then n else G) := by
      unfold gAns1
      rw [if_pos hst]
      dsimp only
      rw [el]
    rw [e]
    refine ⟨b, ?_, h⟩
    unfold b_L_answer_105
    rw [if_pos rfl, if_neg (show ¬ (5 : Int32) ≤ nI kd from fun z => by have := (nI_leI (a := 5) (b := kd) (by decide) (by omega)).mp z; omega)]
    exact an_116 hG
theorem an_step {w s G N n : Nat} {b a : AS} {k15 : AS → Int32 → Int32 → Int32 → Int32 → Option (AS × Int32)} (h : LR Hh b a) (hs : s < 2) (eN : a 4 s = nI N) (hN : N < 64) (hn1 : 1 ≤ n) (hn : n ≤ N) (hG : G < 64) (hc : tn (a 20 (1 - s)) + 2 ≤ 240) (hO : a 11 (8192 * s + n) = nI 5 → tn (a 14 (8192 * s + n)) < tn (a 0 22)) : ∃ b', b_L_answer_15 k15 w b (nI s) (nI G) (nI N) (nI n) = k15 b' (nI s) (nI (gAns1 s (a, G) n).2) (nI N) (nI (n + 1)) ∧ LR Hh b' (gAns1 s (a, G) n).1 := by
  have hnt : n ≤ tn (a 4 s) := by rw [eN, tnI (by omega)]; exact hn
  obtain ⟨N', e4, hN', hm⟩ := h.2.2.2.1 s hs
  have eNN : N' = N := (nI_eq (by omega) (by omega)).mp (e4.symm.trans eN)
  subst eNN
  obtain ⟨kd, wf, o1, o2, o3, o4, t, g1, g2, g3, g4, g5, g6, g7, g8, ek, et, ew, eo, -, -, -⟩ := hm n hn1 hn
  have hC : lgA b (4 + s) n = nL (mcode kd wf o1 o2 o3 o4 t) := g8
  have e01 : b 1 0 = a 0 1 := h.2.1.1
  have key : ∃ b', b_L_answer_33 k15 w b (nI s) (nI G) (nI N') (nI n) (4 + s) = k15 b' (nI s) (nI (gAns1 s (a, G) n).2) (nI N') (nI (n + 1)) ∧ LR Hh b' (gAns1 s (a, G) n).1 := by
    have hu : b_L_answer_33 k15 w b (nI s) (nI G) (nI N') (nI n) (4 + s) = (if nI kd = (5 : Int32) then (if b 1 0 - nI t ≤ (20 : Int32) then b_L_answer_83 k15 w b (nI s) (nI G) (nI N') (nI n) (nL (mcode kd wf o1 o2 o3 o4 t)) (nI kd) else (if lcv (nL wf) (0 : Int64) = (0 : Int32) then b_L_answer_84 k15 w b (nI s) (nI G) (nI N') (nI n) (nL (mcode kd wf o1 o2 o3 o4 t)) (nI kd) (1 : Int32) else b_L_answer_83 k15 w b (nI s) (nI G) (nI N') (nI n) (nL (mcode kd wf o1 o2 o3 o4 t)) (nI kd))) else b_L_answer_83 k15 w b (nI s) (nI G) (nI N') (nI n) (nL (mcode kd wf o1 o2 o3 o4 t)) (nI kd)) := by
      unfold b_L_answer_33
      rw [show lnB (4 + s) 64 = true from by rcases (show s = 0 ∨ s = 1 by omega) with rfl | rfl <;> decide, ixn (show n < 64 by omega) (by decide), nI_clamp (by omega), hC]
      simp only [cond_true, yl]
      rw [mc_kind g1 g2 g3 g4 g5 g6 g7, mc_when g1 g2 g3 g4 g5 g6 g7, mc_again g1 g2 g3 g4 g5 g6 g7]
      rfl
    rw [hu]
    by_cases c5 : kd = 5
    · subst c5
      rw [if_pos (show nI 5 = (5 : Int32) from rfl), e01, ← et]
      by_cases h20 : a 0 1 - a 12 (8192 * s + n) ≤ (20 : Int32)
      · rw [if_pos h20]
        exact an_83 h hs hn1 hnt (by omega) hG g1 hc ek (fun z => z.2.1 h20)
      · rw [if_neg h20]
        by_cases hw0 : wf = 0
        · rw [if_pos ((lcv_w wf g2).mpr hw0)]
          have hold : old a (8192 * s + n) := ⟨ek, h20, by rw [ew, hw0]⟩
          have ho1 : o1 < tn (a 0 22) := by have := hO ek; rw [eo, tnI (by omega)] at this; exact this
          have h10 : o1 < 10 := by
            obtain ⟨K, e22, hK, -⟩ := h.2.2.2.2.2.2.1
            rw [e22, tnI (by omega)] at ho1
            omega
          have e : gAns1 s (a, G) n = (up2 a 29 o1 (nI 1), if G = 0 then n else G) := by
            unfold gAns1
            rw [if_pos (Or.inr hold)]
            dsimp only
            unfold gLeave
            rw [if_pos hold, eo, tnI (by omega)]
          rw [e]
          refine ⟨_, ?_, lr_leave h ho1⟩
          unfold b_L_answer_84
          rw [if_neg (by decide), show (5 : Int32) = nI 5 from rfl, f_part w b (mc_lt g1 g2 g3 g4 g5 g6 g7) (by decide), mc_5 g1 g2 g3 g4 g5 g6]
          show (bif ixB (nI o1) 10 then yl (up2 b 12 (nI o1).toNatClampNeg (b 12 (nI o1).toNatClampNeg ||| (8 : Int32))) (fun a16 => b_L_answer_105 k15 w a16 (nI s) (nI G) (nI N') (nI n) (nI 5) (1 : Int32)) else none) = _
          rw [ixn h10 (by decide), nI_clamp (by omega)]
          show b_L_answer_105 k15 w (up2 b 12 o1 (b 12 o1 ||| (8 : Int32))) (nI s) (nI G) (nI N') (nI n) (nI 5) (1 : Int32) = _
          unfold b_L_answer_105
          rw [if_neg (by decide)]
          exact an_116 hG
        · rw [if_neg (fun z => hw0 ((lcv_w wf g2).mp z))]
          exact an_83 h hs hn1 hnt (by omega) hG g1 hc ek (fun z => hw0 ((nI_eq (by omega) (by decide)).mp (ew.symm.trans z.2.2)))
    · rw [if_neg (show ¬ nI kd = (5 : Int32) from fun z => c5 ((nI_eq (a := kd) (b := 5) (by omega) (by decide)).mp z))]
      exact an_83 h hs hn1 hnt (by omega) hG g1 hc ek (fun z => c5 ((nI_eq (by omega) (by decide)).mp (ek.symm.trans z.1)))
  unfold b_L_answer_15
  rw [if_neg (show ¬ nI N' < nI n from fun z => by have := (nI_ltI (by omega) (by omega)).mp z; omega)]
  rcases (show s = 0 ∨ s = 1 by omega) with rfl | rfl
  · rw [if_pos (show nI 0 = (0 : Int32) from rfl)]; exact key
  · rw [if_neg (by decide)]; exact key
