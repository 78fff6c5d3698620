/-! Messages worked off in turn: the class against the reference. -/
def twOk (a : AS) (s q : Nat) : Prop := ∃ kd : Nat, a 11 q = nI kd ∧ kd ≤ 8 ∧ kd ≠ 4 ∧ (kd = 2 → roomS a s 1) ∧ (s = 0 → (kd ≤ 3 ∨ kd = 8) ∧ (kd = 8 → lrnOk a q)) ∧ (s = 1 → kd ≤ 7 ∧ (5 ≤ kd → ∃ o d : Nat, a 14 q = nI o ∧ woR a o d))
theorem k_workOff {w m q nu s : Nat} {μ : MP} {ν : NC} {a : AS} (hR : RR μ ν a) (hs : s < 2) (hm : m < ν.2 6) (hq : msgRel (μ.1 6 m) (μ.1 8 m) (ν.1 8 m) (a 11) (a 12) (a 13) (a 14) (a 15) (a 16) (a 17) (a 37) (a 39) (a 40) q nu) (hV : twOk a s q) (hw : 600 < w) :
    ∃ (μ' : MP) (ν' : NC), f_X8_workOff w μ ν (nI s) (m + 1) = some ((μ', ν'), 0) ∧ RR μ' ν' (gTkW a s q) ∧ ν'.2 20 = ν.2 20 ∧ bal ν' (gTkW a s q) = bal ν a ∧ ∀ c d : Int, RC c d ν → RC c d ν' := by
  obtain ⟨kd, e11, hk8, hk4, hk2, h0, h1⟩ := hV
  have e60 : μ.1 6 m 0 = nI kd := hq.1.trans e11
  have z0 := hR.1.1
  have z68 := hR.1.2.2.2.2.2.2.2.2.2.2.2.2.2.2.2.2.1
  have ne : ∀ j : Nat, j < 9 → kd ≠ j → ¬ nI kd = nI j := fun j hj h e => h ((nI_eq (by omega) (by omega)).mp e)
  have m3 : kd ≠ 3 → ¬ nI kd = (3 : Int32) := ne 3 (by decide)
  have m4 : kd ≠ 4 → ¬ nI kd = (4 : Int32) := ne 4 (by decide)
  have m5 : kd ≠ 5 → ¬ nI kd = (5 : Int32) := ne 5 (by decide)
  have m6 : kd ≠ 6 → ¬ nI kd = (6 : Int32) := ne 6 (by decide)
  have m7 : kd ≠ 7 → ¬ nI kd = (7 : Int32) := ne 7 (by decide)
  have m8 : kd ≠ 8 → ¬ nI kd = (8 : Int32) := ne 8 (by decide)
  have same : gTkW a s q = a → f_X8_workOff w μ ν (nI s) (m + 1) = some ((μ, ν), 0) → ∃ (μ' : MP) (ν' : NC), f_X8_workOff w μ ν (nI s) (m + 1) = some ((μ', ν'), 0) ∧ RR μ' ν' (gTkW a s q) ∧ ν'.2 20 = ν.2 20 ∧ bal ν' (gTkW a s q) = bal ν a ∧ ∀ c d : Int, RC c d ν → RC c d ν' := fun g1 g2 => by
    rw [g1]
    exact ⟨μ, ν, g2, hR, rfl, rfl, fun _ _ h => h⟩
  have hx : f_X8_workOff w μ ν (nI s) (m + 1) = (if nI kd = (2 : Int32) then (bif ltB 0 (ν.2 0) then (f_X8_send_N w μ ν (nI s) (1 : Int32)).bind (fun v3 => b_X8_workOff_61 w v3.1.1 v3.1.2 ) else none) else (if nI kd = (3 : Int32) then (some ((μ, ν), (0 : Int32))) else (if nI kd = (4 : Int32) then (some ((μ, ν), (0 : Int32))) else (if nI kd = (5 : Int32) then (bif ltB 0 (ν.2 0) then (f_X8_houseTakesOrder w μ ν (m + 1)).bind (fun v5 => b_X8_workOff_69 w v5.1.1 v5.1.2 ) else none) else (if nI kd = (6 : Int32) then ((f_X3_valueOf w μ ν m (41 : Int32)).bind (fun v6 => bif ltB 0 (ν.2 0) then (f_X8_findOrder w μ ν v6).bind (fun v8 => (f_X8_houseCancels w μ ν v8).bind (fun v9 => b_X8_workOff_86 w v9.1.1 v9.1.2 )) else none)) else (if nI kd = (7 : Int32) then ((f_X3_valueOf w μ ν m (41 : Int32)).bind (fun v10 => bif ltB 0 (ν.2 0) then (f_X8_findOrder w μ ν v10).bind (fun v12 => (f_X8_houseReplaces w μ ν v12 (m + 1)).bind (fun v13 => b_X8_workOff_104 w v13.1.1 v13.1.2 )) else none)) else (if nI kd = (8 : Int32) then (bif ltB 0 (ν.2 0) then (f_X8_traderReads w μ ν (m + 1)).bind (fun v15 => some ((v15.1, ν), (0 : Int32))) else none) else some ((μ, ν), (0 : Int32))))))))) := by
    unfold f_X8_workOff
    rw [if_neg (Nat.succ_ne_zero m), Nat.add_sub_cancel, ltt hm, e60]
    rfl
  rw [hx] at same ⊢
  rw [ltt z0] at same ⊢
  simp only [cond_true] at same ⊢
  by_cases c2 : kd = 2
  · subst c2
    rw [if_pos (show nI 2 = (2 : Int32) from rfl)]
    obtain ⟨μ', ν', t1, t2, t3, t4, t5, t6⟩ := k_sendN (w := w) (k := 1) hR hs (hk2 rfl) (by decide)
    have hg : gTkW a s q = gSends a s (nI 1) (nI 0) (nI 0) (nI 0) (nI 0) := if_pos e11
    rw [hg]
    refine ⟨μ', ν', ?_, t2, t4, bal_send hs (hk2 rfl) t3, t6⟩
    rw [q1, t1]
    rfl
  · have n2 : ¬ nI kd = (2 : Int32) := ne 2 (by decide) c2
    have g2 : gTkW a s q = (if s = 0 then (if a 11 q = nI 8 then gLearns a q else a) else if a 11 q < nI 5 then a else gWork a q) := if_neg (by rw [e11]; exact n2)
    rw [if_neg n2] at same ⊢
    rcases (show s = 0 ∨ s = 1 by omega) with rfl | rfl
    · rw [if_pos rfl, e11] at g2
      obtain ⟨a1, a2⟩ := h0 rfl
      by_cases c8 : kd = 8
      · subst c8
        rw [if_pos (rfl : nI 8 = nI 8)] at g2
        rw [if_neg (show ¬ nI 8 = (3 : Int32) by decide), if_neg (show ¬ nI 8 = (4 : Int32) by decide), if_neg (show ¬ nI 8 = (5 : Int32) by decide), if_neg (show ¬ nI 8 = (6 : Int32) by decide), if_neg (show ¬ nI 8 = (7 : Int32) by decide), if_pos (show nI 8 = (8 : Int32) from rfl), g2]
        obtain ⟨μ', t1, t2⟩ := k_reads (w := w) hR hm hq e11 (a2 rfl) hw
        refine ⟨μ', ν, ?_, t2, rfl, bal_of rfl (gLearns_4 a q), fun _ _ h => h⟩
        rw [t1]
        rfl
      · rw [if_neg (ne 8 (by decide) c8)] at g2
        refine same g2 ?_
        by_cases c3 : kd = 3
        · subst c3; rw [if_pos (show nI 3 = (3 : Int32) from rfl)]
        · rw [if_neg (m3 c3), if_neg (m4 hk4), if_neg (m5 (by omega)), if_neg (m6 (by omega)), if_neg (m7 (by omega)), if_neg (m8 c8)]
    · rw [if_neg (by decide), e11] at g2
      obtain ⟨a1, a2⟩ := h1 rfl
      by_cases c5 : kd < 5
      · rw [if_pos ((nI_ltI (by omega) (by decide)).mpr c5)] at g2
        refine same g2 ?_
        by_cases c3 : kd = 3
        · subst c3; rw [if_pos (show nI 3 = (3 : Int32) from rfl)]
        · rw [if_neg (m3 c3), if_neg (m4 hk4), if_neg (m5 (by omega)), if_neg (m6 (by omega)), if_neg (m7 (by omega)), if_neg (m8 (by omega))]
      · rw [if_neg (fun h => c5 ((nI_ltI (by omega) (by decide)).mp h))] at g2
        obtain ⟨o, d, e14, hwo⟩ := a2 (by omega)
        rw [if_neg (m3 (by omega)), if_neg (m4 (by omega)), g2]
        obtain ⟨hfo, -, -⟩ := k_findO (w := w) hR hwo.1
        obtain ⟨-, -, -, nb, fb, L1, L2, L3, L4⟩ := id hq
        rcases (show kd = 5 ∨ kd = 6 ∨ kd = 7 by omega) with rfl | rfl | rfl
        · rw [if_pos (show nI 5 = (5 : Int32) from rfl)]
          obtain ⟨μ', ν', t1, t2, t3, t4, t5⟩ := k_hTakes (w := w) hR hm hq e11 e14 hwo hw
          refine ⟨μ', ν', ?_, t2, t3, t4, t5⟩
          rw [t1]
          rfl
        · rw [if_neg (show ¬ nI 6 = (5 : Int32) by decide), if_pos (show nI 6 = (6 : Int32) from rfl)]
          obtain ⟨b0, b1, b2⟩ := body6 L4 e11
          have hv0 := k_fld (w := w) (i := 0) (tag := 41) hm z68 L1 L2 L3 (by omega) b1 (by decide) (fun i' h => by omega) hw
          rw [show fb (2 * 0 + 1) = nI o from b2.trans e14] at hv0
          obtain ⟨μ', ν', t1, t2, t3, t4, t5⟩ := k_hCancels (w := w) hR e11 e14 hwo
          refine ⟨μ', ν', ?_, t2, t3, t4, t5⟩
          rw [show (41 : Int32) = nI 41 from rfl, hv0]
          simp only [Option.bind_some]
          rw [hfo]
          simp only [Option.bind_some]
          rw [t1]
          rfl
        · rw [if_neg (show ¬ nI 7 = (5 : Int32) by decide), if_neg (show ¬ nI 7 = (6 : Int32) by decide), if_pos (show nI 7 = (7 : Int32) from rfl)]
          obtain ⟨b0, b1, b2, -⟩ := body7 L4 e11
          have hv0 := k_fld (w := w) (i := 0) (tag := 41) hm z68 L1 L2 L3 (by omega) b1 (by decide) (fun i' h => by omega) hw
          rw [show fb (2 * 0 + 1) = nI o from b2.trans e14] at hv0
          obtain ⟨μ', ν', t1, t2, t3, t4, t5⟩ := k_hReplaces (w := w) hR hm hq e11 e14 hwo hw
          refine ⟨μ', ν', ?_, t2, t3, t4, t5⟩
          rw [show (41 : Int32) = nI 41 from rfl, hv0]
          simp only [Option.bind_some]
          rw [hfo]
          simp only [Option.bind_some]
          rw [t1]
          rfl
theorem RR_exp {μ : MP} {ν : NC} {a : AS} {s e : Nat} (hR : RR μ ν a) (hs : s < 2) (h1 : 1 ≤ e) (h2 : e ≤ 8191) : RR (uM μ 1 s 4 (nI e)) ν (up2 a 5 s (nI e)) := by
  obtain ⟨g0, gF, g1, g2, g3, g4, g5, g6, g7, g8, g9⟩ := hR
  refine ⟨g0, gF, g1, fun s' hs' => ?_, g3, g4, ?_, g6, g7, g8, g9⟩
  · obtain ⟨x1, x2, x3, x4, x5, x6, x7, x8⟩ := g2 s' hs'
    by_cases c : s' = s
    · subst c
      rw [uM_s]
      exact ⟨x1, (up1_s _ _ _).trans (up2_s _ _ _ _).symm, x3, x4, x5, x6, x7, e, up2_s _ _ _ _, h1, h2⟩
    · rw [uM_n _ _ _ (by omega)]
      have e5 : up2 a 5 s (nI e) 5 s' = a 5 s' := up2_n _ _ (by omega)
      rw [e5]
      exact ⟨x1, x2, x3, x4, x5, x6, x7, x8⟩
  · exact g5
