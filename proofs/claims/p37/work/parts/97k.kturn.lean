/-! Messages worked off in turn: the class against the reference. -/
def twOk (a : AS) (s q : Nat) : Prop := ∃ kd : Nat, a 11 q = nI kd ∧ kd ≤ 8 ∧ kd ≠ 4 ∧ (kd = 2 → roomS a s 1) ∧ (s = 0 → (kd ≤ 3 ∨ kd = 8) ∧ (kd = 8 → lrnOk a q)) ∧ (s = 1 → kd ≤ 7 ∧ (5 ≤ kd → ∃ o d : Nat, a 14 q = nI o ∧ woR a o d))
theorem k_workOff {w m q nu s : Nat} {μ : MP} {ν : NC} {a : AS} (hR : RR μ ν a) (hs : s < 2) (hm : m < ν.2 6) (hq : msgRel (μ.1 6 m) (μ.1 8 m) (ν.1 8 m) (a 11) (a 12) (a 13) (a 14) (a 15) (a 16) (a 17) (a 37) (a 39) (a 40) q nu) (hV : twOk a s q) (hw : 600 < w) :
    ∃ (μ' : MP) (ν' : NC), f_X8_workOff w μ ν (nI s) (m + 1) = some ((μ', ν'), 0) ∧ RR μ' ν' (gTkW a s q) ∧ ν'.2 20 = ν.2 20 ∧ bal ν' (gTkW a s q) = bal ν a ∧ ∀ c d : Int, RC c d ν → RC c d ν' := by
  obtain ⟨kd, e11, hk8, hk4, hk2, h0, h1⟩ := hV
  have e60 : μ.1 6 m 0 = nI kd := hq.1.trans e11
  have z0 := hR.1.1
  have z68 := hR.1.2.2.2.2.2.2.2.2.2.2.2.2.2.2.2.2.1
  have ne : ∀ j : Nat, j < 9 → kd ≠ j → ¬ nI kd = nI j := fun j hj h e => h ((nI_eq (by omega) (by omega)).mp e)
  have m3 : kd ≠ 3 → ¬ nI kd = (3 : Int32) := ne 3 (by decide)
  have m4 : kd ≠ 4 → ¬ nI kd = (4 : Int32) := ne 4 (by decide)
  have m5 : kd ≠ 5 → ¬ nI kd = (5 : Int32) := ne 5 (by decide)
  have m6 : kd ≠ 6 → ¬ nI kd = (6 : Int32) := ne 6 (by decide)
  have m7 : kd ≠ 7 → ¬ nI kd = (7 : Int32) := ne 7 (by decide)
  have m8 : kd ≠ 8 → ¬ nI kd = (8 : Int32) := ne 8 (by decide)
  have same : gTkW a s q = a → f_X8_workOff w μ ν (nI s) (m + 1) = some ((μ, ν), 0) → ∃ (μ' : MP) (ν' : NC), f_X8_workOff w μ ν (nI s) (m + 1) = some ((μ', ν'), 0) ∧ RR μ' ν' (gTkW a s q) ∧ ν'.2 20 = ν.2 20 ∧ bal ν' (gTkW a s q) = bal ν a ∧ ∀ c d : Int, RC c d ν → RC c d ν' := fun g1 g2 => by
    rw [g1]
    exact ⟨μ, ν, g2, hR, rfl, rfl, fun _ _ h => h⟩
  have hx : f_X8_workOff w μ ν (nI s) (m + 1) = (if nI kd = (2 : Int32) then (bif ltB 0 (ν.2 0) then (f_X8_send_N w μ ν (nI s) (1 : Int32)).bind (fun v3 => b_X8_workOff_61 w v3.1.1 v3.1.2 ) else none) else (if nI kd = (3 : Int32) then (some ((μ, ν), (0 : Int32))) else (if nI kd = (4 : Int32) then (some ((μ, ν), (0 : Int32))) else (if nI kd = (5 : Int32) then (bif ltB 0 (ν.2 0) then (f_X8_houseTakesOrder w μ ν (m + 1)).bind (fun v5 => b_X8_workOff_69 w v5.1.1 v5.1.2 ) else none) else (if nI kd = (6 : Int32) then ((f_X3_valueOf w μ ν m (41 : Int32)).bind (fun v6 => bif ltB 0 (ν.2 0) then (f_X8_findOrder w μ ν v6).bind (fun v8 => (f_X8_houseCancels w μ ν v8).bind (fun v9 => b_X8_workOff_86 w v9.1.1 v9.1.2 )) else none)) else (if nI kd = (7 : Int32) then ((f_X3_valueOf w μ ν m (41 : Int32)).bind (fun v10 => bif ltB 0 (ν.2 0) then (f_X8_findOrder w μ ν v10).bind (fun v12 => (f_X8_houseReplaces w μ ν v12 (m + 1)).bind (fun v13 => b_X8_workOff_104 w v13.1.1 v13.1.2 )) else none)) else (if nI kd = (8 : Int32) then (bif ltB 0 (ν.2 0) then (f_X8_traderReads w μ ν (m + 1)).bind (fun v15 => some ((v15.1, ν), (0 : Int32))) else none) else some ((μ, ν), (0 : Int32))))))))) := by
    unfold f_X8_workOff
    rw [if_neg (Nat.succ_ne_zero m), Nat.add_sub_cancel, ltt hm, e60]
    rfl
  rw [hx] at same ⊢
  rw [ltt z0] at same ⊢
  simp only [cond_true] at same ⊢
  by_cases c2 : kd = 2
  · subst c2
    rw [if_pos (show nI 2 = (2 : Int32) from rfl)]
    obtain ⟨μ', ν', t1, t2, t3, t4, t5, t6⟩ := k_sendN (w := w) (k := 1) hR hs (hk2 rfl) (by decide)
    have hg : gTkW a s q = gSends a s (nI 1) (nI 0) (nI 0) (nI 0) (nI 0) := if_pos e11
    rw [hg]
    refine ⟨μ', ν', ?_, t2, t4, bal_send hs (hk2 rfl) t3, t6⟩
    rw [q1, t1]
    rfl
  · have n2 : ¬ nI kd = (2 : Int32) := ne 2 (by decide) c2
    have g2 : gTkW a s q = (if s = 0 then (if a 11 q = nI 8 then gLearns a q else a) else if a 11 q < nI 5 then a else gWork a q) := if_neg (by rw [e11]; exact n2)
    rw [if_neg n2] at same ⊢
    rcases (show s = 0 ∨ s = 1 by omega) with rfl | rfl
    · rw [if_pos rfl, e11] at g2
      obtain ⟨a1, a2⟩ := h0 rfl
      by_cases c8 : kd = 8
      · subst c8
        rw [if_pos (rfl : nI 8 = nI 8)] at g2
        rw [if_neg (show ¬ nI 8 = (3 : Int32) by decide), if_neg (show ¬ nI 8 = (4 : Int32) by decide), if_neg (show ¬ nI 8 = (5 : Int32) by decide), if_neg (show ¬ nI 8 = (6 : Int32) by decide), if_neg (show ¬ nI 8 = (7 : Int32) by decide), if_pos (show nI 8 = (8 : Int32) from rfl), g2]
        obtain ⟨μ', t1, t2⟩ := k_reads (w := w) hR hm hq e11 (a2 rfl) hw
        refine ⟨μ', ν, ?_, t2, rfl, bal_of rfl (gLearns_4 a q), fun _ _ h => h⟩
        rw [t1]
        rfl
      · rw [if_neg (ne 8 (by decide) c8)] at g2
        refine same g2 ?_
        by_cases c3 : kd = 3
        · subst c3; rw [if_pos (show nI 3 = (3 : Int32) from rfl)]
        · rw [if_neg (m3 c3), if_neg (m4 hk4), if_neg (m5 (by omega)), if_neg (m6 (by omega)), if_neg (m7 (by omega)), if_neg (m8 c8)]
    · rw [if_neg (by decide), e11] at g2
      obtain ⟨a1, a2⟩ := h1 rfl
      by_cases c5 : kd < 5
      · rw [if_pos ((nI_ltI (by omega) (by decide)).mpr c5)] at g2
        refine same g2 ?_
        by_cases c3 : kd = 3
        · subst c3; rw [if_pos (show nI 3 = (3 : Int32) from rfl)]
        · rw [if_neg (m3 c3), if_neg (m4 hk4), if_neg (m5 (by omega)), if_neg (m6 (by omega)), if_neg (m7 (by omega)), if_neg (m8 (by omega))]
      · rw [if_neg (fun h => c5 ((nI_ltI (by omega) (by decide)).mp h))] at g2
        obtain ⟨o, d, e14, hwo⟩ := a2 (by omega)
        rw [if_neg (m3 (by omega)), if_neg (m4 (by omega)), g2]
        obtain ⟨hfo, -, -⟩ := k_findO (w := w) hR hwo.1
        obtain ⟨-, -, -, nb, fb, L1, L2, L3, L4⟩ := id hq
        rcases (show kd = 5 ∨ kd = 6 ∨ kd = 7 by omega) with rfl | rfl | rfl
        · rw [if_pos (show nI 5 = (5 : Int32) from rfl)]
          obtain ⟨μ', ν', t1, t2, t3, t4, t5⟩ := k_hTakes (w := w) hR hm hq e11 e14 hwo hw
          refine ⟨μ', ν', ?_, t2, t3, t4, t5⟩
          rw [t1]
          rfl
        · rw [if_neg (show ¬ nI 6 = (5 : Int32) by decide), if_pos (show nI 6 = (6 : Int32) from rfl)]
          obtain ⟨b0, b1, b2⟩ := body6 L4 e11
          have hv0 := k_fld (w := w) (i := 0) (tag := 41) hm z68 L1 L2 L3 (by omega) b1 (by decide) (fun i' h => by omega) hw
          rw [show fb (2 * 0 + 1) = nI o from b2.trans e14] at hv0
          obtain ⟨μ', ν', t1, t2, t3, t4, t5⟩ := k_hCancels (w := w) hR e11 e14 hwo
          refine ⟨μ', ν', ?_, t2, t3, t4, t5⟩
          rw [show (41 : Int32) = nI 41 from rfl, hv0]
          simp only [Option.bind_some]
          rw [hfo]
          simp only [Option.bind_some]
          rw [t1]
          rfl
        · rw [if_neg (show ¬ nI 7 = (5 : Int32) by decide), if_neg (show ¬ nI 7 = (6 : Int32) by decide), if_pos (show nI 7 = (7 : Int32) from rfl)]
          obtain ⟨b0, b1, b2, -⟩ := body7 L4 e11
          have hv0 := k_fld (w := w) (i := 0) (tag := 41) hm z68 L1 L2 L3 (by omega) b1 (by decide) (fun i' h => by omega) hw
          rw [show fb (2 * 0 + 1) = nI o from b2.trans e14] at hv0
          obtain ⟨μ', ν', t1, t2, t3, t4, t5⟩ := k_hReplaces (w := w) hR hm hq e11 e14 hwo hw
          refine ⟨μ', ν', ?_, t2, t3, t4, t5⟩
          rw [show (41 : Int32) = nI 41 from rfl, hv0]
          simp only [Option.bind_some]
          rw [hfo]
          simp only [Option.bind_some]
          rw [t1]
          rfl
theorem RR_exp {μ : MP} {ν : NC} {a : AS} {s e : Nat} (hR : RR μ ν a) (hs : s < 2) (h1 : 1 ≤ e) (h2 : e ≤ 8191) : RR (uM μ 1 s 4 (nI e)) ν (up2 a 5 s (nI e)) := by
  obtain ⟨g0, gF, g1, g2, g3, g4, g5, g6, g7, g8, g9⟩ := hR
  refine ⟨g0, gF, g1, fun s' hs' => ?_, g3, g4, ?_, g6, g7, g8, g9⟩
  · obtain ⟨x1, x2, x3, x4, x5, x6, x7, x8⟩ := g2 s' hs'
    by_cases c : s' = s
    · subst c
      rw [uM_s]
      exact ⟨x1, (up1_s _ _ _).trans (up2_s _ _ _ _).symm, x3, x4, x5, x6, x7, e, up2_s _ _ _ _, h1, h2⟩
    · rw [uM_n _ _ _ (by omega)]
      have e5 : up2 a 5 s (nI e) 5 s' = a 5 s' := up2_n _ _ (by omega)
      rw [e5]
      exact ⟨x1, x2, x3, x4, x5, x6, x7, x8⟩
  · exact g5
/-! what working off leaves as it is -/
theorem gRoutes_k (a : AS) (o k i : Nat) (h : k = 5 ∨ k = 18) : gRoutes a o k i = a k i := by
  unfold gRoutes gRep
  split
  · exact gRouteL_k o 102 a k i (by omega) (by omega) (by omega) (by omega)
  · rw [gSends_k _ _ _ _ _ _ _ _ _ (by omega) (by omega) (by omega) (by omega) (by omega)]
    exact gRouteL_k o 102 a k i (by omega) (by omega) (by omega) (by omega)
theorem gWork_k (a : AS) (q k i : Nat) (h : k = 5 ∨ k = 18) : gWork a q k i = a k i := by
  have hs : ∀ (b : AS) (σ : Int32) (o : Nat) (x y : Int32), gRep b σ o x y k i = b k i := fun b σ o x y => gSends_k _ _ _ _ _ _ _ _ _ (by omega) (by omega) (by omega) (by omega) (by omega)
  unfold gWork
  repeat' split
  · rw [gRoutes_k _ _ _ _ h, hs, gBehind]; simp (disch := omega) only [up2_n]
  · rfl
  · rw [hs]
  · rw [hs]; simp (disch := omega) only [up2_n]
  · rw [gRoutes_k _ _ _ _ h, hs, gBehind]; simp (disch := omega) only [up2_n]
theorem gKnows_k (o : Nat) : ∀ (d e : Nat) (a : AS) (k i : Nat), k = 5 ∨ k = 18 ∨ k = 4 → gKnows o d e a k i = a k i := by
  intro d
  induction d with
  | zero => intro e a k i _; rfl
  | succ d ih =>
    intro e a k i h
    show gKnows o d (e + 1) (gKnow1 a o e) k i = _
    rw [ih _ _ _ _ h]
    unfold gKnow1
    rw [up2_n _ _ (by omega), up2_n _ _ (by omega), up2_n _ _ (by omega)]
theorem gLearns_k (a : AS) (q k i : Nat) (h : k = 5 ∨ k = 18 ∨ k = 4) : gLearns a q k i = a k i := by
  unfold gLearns gEndReq
  rw [up2_n _ _ (by omega)]
  unfold gLrn
  repeat' split
  all_goals first | rfl | exact gKnows_k _ _ _ _ _ _ h | (simp (disch := omega) only [up2_n])
theorem gSends_4o (a : AS) {s s' : Nat} (kd o1 o2 o3 o4 : Int32) (h : s' ≠ s) : gSends a s kd o1 o2 o3 o4 4 s' = a 4 s' := by
  rw [gSends_q _ _ _ _ _ _ _ _ (by decide) (by decide) (by decide)]
  unfold gKeep
  simp (disch := omega) only [up2_n]
theorem gWork_4 (a : AS) (q : Nat) : gWork a q 4 0 = a 4 0 := by
  have hs : ∀ (b : AS) (σ : Int32) (o : Nat) (x y : Int32), gRep b σ o x y 4 0 = b 4 0 := fun b σ o x y => gSends_4o _ _ _ _ _ _ (by decide)
  have hr : ∀ (b : AS) (o : Nat), gRoutes b o 4 0 = b 4 0 := fun b o => by
    unfold gRoutes
    split
    · exact gRouteL_k o 102 b 4 0 (by omega) (by omega) (by omega) (by omega)
    · rw [hs]; exact gRouteL_k o 102 b 4 0 (by omega) (by omega) (by omega) (by omega)
  unfold gWork
  repeat' split
  · rw [hr, hs, gBehind]; simp (disch := omega) only [up2_n]
  · rfl
  · rw [hs]
  · rw [hs]; simp (disch := omega) only [up2_n]
  · rw [hr, hs, gBehind]; simp (disch := omega) only [up2_n]
theorem gTkW_k (a : AS) (s q k i : Nat) (h : k = 5 ∨ k = 18) : gTkW a s q k i = a k i := by
  unfold gTkW
  repeat' split
  · exact gSends_k _ _ _ _ _ _ _ _ _ (by omega) (by omega) (by omega) (by omega) (by omega)
  · exact gLearns_k _ _ _ _ (by omega)
  · rfl
  · rfl
  · exact gWork_k _ _ _ _ h
theorem gTkW_4 (a : AS) {s : Nat} (q : Nat) (hs : s < 2) : gTkW a s q 4 (1 - s) = a 4 (1 - s) := by
  unfold gTkW
  split
  · exact gSends_4o _ _ _ _ _ _ (by omega)
  · split
    · split
      · exact gLearns_k _ _ _ _ (by omega)
      · rfl
    · split
      · rfl
      · obtain rfl : s = 1 := by omega
        exact gWork_4 _ _
/-- one turn -/
theorem k_81 {w s S x E E' : Nat} {μ : MP} {ν : NC} {c : AS} {p4 : Nat} {K : MP → NC → Int32 → Nat → Nat → Int32 → Int32 → Int32 → Option ((MP × NC) × Int32)} (hR : RR μ ν c) (hs : s < 2) (hw : 8192 < w) (e5 : c 5 s = nI E') (h1 : E < E') (h2 : E' ≤ 8191) (hz : ∀ i, i < E → c 18 (8192 * s + i) = nI 0) (hx : x < 10000) :
    ∃ μ' : MP, b_X8_workInTurn_81 K w μ ν (nI s) (s + 1) p4 (nI S) (nI x) (nI E) = K μ' ν (nI s) (s + 1) p4 (hv (tn (gThrow c s 18 (8192 * s + E')))) (nI S) (nI (x + 1)) ∧ RR μ' ν (gThr1 (gThrow c s) s E') := by
  have z1 := hR.1.2.1
  have z3 := hR.1.2.2.2.1
  have m14 : μ.1 1 s 4 = nI E' := (hR.2.2.2.1 s hs).2.1.trans e5
  obtain ⟨μ1, t1, t2, t3, t4⟩ := k_dropL (w := w) (e := E') hs h2 (E' - E) E w μ c (by omega) (by omega) hR
  have hth : gThrow c s = gThrL s (E' - E) E c := by
    unfold gThrow
    rw [e5, tnI (by omega), show E' = E + (E' - E) by omega, gThrL_add, gThrL_0 s E 0 c (fun i _ h => hz i (by omega)), show E + (E' - E) - E = E' - E by omega, Nat.zero_add]
  rw [← hth] at t2
  obtain ⟨v, v1, v2, v3⟩ := hvOf (n := E') t2 hs (by omega)
  obtain ⟨μ2, r1, r2, r3, r4⟩ := k_take (w := w) t2 hs (by omega) v1 v3
  refine ⟨μ2, ?_, r2⟩
  unfold b_X8_workInTurn_81 f_X0_dropBetween
  rw [nzs, Nat.add_sub_cancel, ltt (show s < ν.2 1 by omega), ltt (show s < ν.2 3 by omega), m14, t1]
  simp only [cond_true, Option.bind_some]
  rw [show μ1.1 1 s 4 = nI E' by rw [t3 1 (by decide) (by decide)]; exact m14, r1]
  simp only [Option.bind_some, yl]
  rw [q1, nI_add, v1, tnI (by omega)]
theorem k_wstep {w s S x E f : Nat} {μ : MP} {ν : NC} {b : AS} {K : MP → NC → Int32 → Nat → Nat → Int32 → Int32 → Int32 → Option ((MP × NC) × Int32)} (hR : RR μ ν b) (hs : s < 2) (hw : 8192 < w) (e5 : b 5 s = nI E) (hE : 1 ≤ E) (hES : E ≤ S) (hS : S ≤ 8190) (e4 : b 4 (1 - s) = nI S) (hf : f ≤ 8191) (hf1 : f ≠ 1) (hz : ∀ i, i < E → b 18 (8192 * s + i) = nI 0) (hx : x < E) (hV : f = 0 → twOk (up2 b 5 s (nI (E + 1))) s (8192 * (1 - s) + E)) :
    ∃ (μ' : MP) (ν' : NC) (E' : Nat), b_X8_workInTurn_32 K w μ ν (nI s) (s + 1) (1 - s + 1) (if f = 0 then nI 1 else nI f) (nI S) (nI x) = K μ' ν' (nI s) (s + 1) (1 - s + 1) (hv (tn (gThrow (gTakes b s E f) s 18 (8192 * s + E')))) (nI S) (nI (x + 1)) ∧ gTakes b s E f 5 s = nI E' ∧ E < E' ∧ E' ≤ 8191 ∧ RR μ' ν' (gThr1 (gThrow (gTakes b s E f) s) s E') ∧ ν'.2 20 = ν.2 20 ∧ bal ν' (gTakes b s E f) = bal ν b ∧ ∀ c d : Int, RC c d ν → RC c d ν' := by
  have z1 := hR.1.2.1
  have m14 : μ.1 1 s 4 = nI E := (hR.2.2.2.1 s hs).2.1.trans e5
  generalize hx5 : (if f = 0 then nI 1 else nI f : Int32) = x5
  have hx0 : ¬ x5 = (0 : Int32) := by
    rw [← hx5]
    by_cases c : f = 0
    · rw [if_pos c]; decide
    · rw [if_neg c]; exact nIne (by omega) (by decide) c
  have hx1 : x5 = (1 : Int32) ↔ f = 0 := by
    rw [← hx5]
    by_cases c : f = 0
    · rw [if_pos c]; exact ⟨fun _ => c, fun _ => rfl⟩
    · rw [if_neg c]
      exact ⟨fun h => absurd ((nI_eq (show f < 2 ^ 31 by omega) (by decide)).mp (show nI f = nI 1 from h)) hf1, fun h => absurd h c⟩
  obtain ⟨E', hE'⟩ : ∃ E', E' = (if 0 < f then (if f ≤ E + 1 then E + 1 else f) else E + 1) := ⟨_, rfl⟩
  have hnew : (if nI E + 1 < x5 then x5 else nI E + 1) = nI E' := by
    rw [← hx5, q1, nI_add, hE']
    by_cases c : f = 0
    · rw [if_pos c, if_neg (show ¬ 0 < f by omega), if_neg (fun h => by have := (nI_ltI (by omega) (by decide)).mp h; omega)]
    · rw [if_neg c, if_pos (show 0 < f by omega)]
      by_cases c1 : f ≤ E + 1
      · rw [if_pos c1, if_neg (fun h => by have := (nI_ltI (by omega) (by omega)).mp h; omega)]
      · rw [if_neg c1, if_pos ((nI_ltI (by omega) (by omega)).mpr (by omega))]
  have hE1 : E < E' ∧ E' ≤ 8191 := by
    rw [hE']
    repeat' split
    all_goals omega
  have hRm := RR_exp (e := E') hR hs (by omega) hE1.2
  have hpre : b_X8_workInTurn_32 K w μ ν (nI s) (s + 1) (1 - s + 1) x5 (nI S) (nI x) = (if x5 = (1 : Int32) then (f_X5_message w (uM μ 1 s 4 (nI E')) ν (1 - s) (nI E)).bind (fun v22 => (f_X8_workOff w (uM μ 1 s 4 (nI E')) ν (nI s) v22).bind (fun v24 => b_X8_workInTurn_81 K w v24.1.1 v24.1.2 (nI s) (s + 1) (1 - s + 1) (nI S) (nI x) (nI E))) else b_X8_workInTurn_81 K w (uM μ 1 s 4 (nI E')) ν (nI s) (s + 1) (1 - s + 1) (nI S) (nI x) (nI E)) := by
    unfold b_X8_workInTurn_32
    rw [if_neg (fun h => by have := (nI_leI (by omega) (by omega)).mp h; omega), if_neg hx0, nzs, nzs, Nat.add_sub_cancel, Nat.add_sub_cancel, ltt (show s < ν.2 1 by omega), ltt (show 1 - s < ν.2 1 by omega), ltt hR.1.1, m14]
    simp only [cond_true, yl]
    rw [hnew]
  rw [hpre]
  by_cases c : f = 0
  · rw [if_pos (hx1.mpr c)]
    have hEE : E' = E + 1 := by rw [hE', if_neg (by omega)]
    subst hEE
    obtain ⟨m, t1, t2, t3, t4⟩ := k_msg (w := w) (s := 1 - s) (n := E) hRm (by omega) hE (by rw [up2_n _ _ (by omega), e4, tnI (by omega)]; exact hES)
    obtain ⟨μ2, ν2, r1, r2, r3, r4, r5⟩ := k_workOff (w := w) hRm hs t3 t4 (hV c) (by omega)
    have hgt : gTakes b s E f = gTkW (up2 b 5 s (nI (E + 1))) s (8192 * (1 - s) + E) := if_neg (by omega)
    rw [hgt]
    have e5' : gTkW (up2 b 5 s (nI (E + 1))) s (8192 * (1 - s) + E) 5 s = nI (E + 1) := (gTkW_k _ _ _ _ _ (Or.inl rfl)).trans (up2_s _ _ _ _)
    obtain ⟨μ3, u1, u2⟩ := k_81 (K := K) (S := S) (x := x) (p4 := 1 - s + 1) r2 hs hw e5' hE1.1 hE1.2 (fun i hi => by rw [gTkW_k _ _ _ _ _ (Or.inr rfl), up2_n _ _ (by omega)]; exact hz i hi) (by omega)
    refine ⟨μ3, ν2, E + 1, ?_, e5', hE1.1, hE1.2, u2, r3, r4.trans (bal_of rfl (funext fun i => up2_n _ _ (by omega))), r5⟩
    rw [t1]
    simp only [Option.bind_some]
    rw [r1]
    simp only [Option.bind_some]
    exact u1
  · rw [if_neg (fun h => c (hx1.mp h))]
    have hgt : gTakes b s E f = up2 b 5 s (nI E') := by
      unfold gTakes
      rw [if_pos (show 0 < f by omega), hE', if_pos (show 0 < f by omega)]
    rw [hgt]
    obtain ⟨μ3, u1, u2⟩ := k_81 (K := K) (S := S) (x := x) (p4 := 1 - s + 1) hRm hs hw (up2_s _ _ _ _) hE1.1 hE1.2 (fun i hi => by rw [up2_n _ _ (by omega)]; exact hz i hi) (by omega)
    exact ⟨μ3, ν, E', u1, up2_s _ _ _ _, hE1.1, hE1.2, u2, rfl, bal_of rfl (funext fun i => up2_n _ _ (by omega)), fun _ _ h => h⟩
/-- what the loop of working off wants -/
def wiOk (a : AS) (s S : Nat) : Prop := ∃ E v : Nat, a 5 s = nI E ∧ 1 ≤ E ∧ E ≤ 8191 ∧ a 4 (1 - s) = nI S ∧ (∀ i, i < E → a 18 (8192 * s + i) = nI 0) ∧ a 18 (8192 * s + E) = nI v ∧ (v ≤ 1 ∨ 4 ≤ v) ∧ v ≤ 8193 ∧ (0 < v → E ≤ S ∧ (v = 1 → twOk (up2 (gHd0 a s) 5 s (nI (E + 1))) s (8192 * (1 - s) + E)))
theorem gThr1_4 (a : AS) (s n i : Nat) : gThr1 a s n 4 i = a 4 i := gThr1_k _ _ _ _ _ (by decide) (by decide)
theorem k_wit {w s S : Nat} (hs : s < 2) (hw : 8192 < w) (hS : S ≤ 8190) (P : AS → Prop) (hP : ∀ a, P a → wiOk a s S) (hN : ∀ a, P a → ¬ a 18 (8192 * s + tn (a 5 s)) ≤ nI 0 → P (gHd1 a s)) : ∀ (k m x : Nat) (μ : MP) (ν : NC) (a : AS), P a → RR μ ν (gThr1 a s (tn (a 5 s))) → x < tn (a 5 s) → 8191 ≤ k + tn (a 5 s) → k < m →
    ∃ (μ' : MP) (ν' : NC), l_X8_workInTurn_32 w m μ ν (nI s) (s + 1) (1 - s + 1) (hv (tn (a 18 (8192 * s + tn (a 5 s))))) (nI S) (nI x) = some ((μ', ν'), 0) ∧ RR μ' ν' (gHdL s (k + 1) a) ∧ ν'.2 20 = ν.2 20 ∧ bal ν' (gHdL s (k + 1) a) = bal ν a ∧ ∀ c d : Int, RC c d ν → RC c d ν' := by
  intro k
  induction k with
  | zero =>
    intro m x μ ν a hp hR hx hk hm
    obtain ⟨m, rfl⟩ : ∃ m', m = m' + 1 := ⟨m - 1, by omega⟩
    obtain ⟨E, v, e5, hE1, hE2, e4, hz, e18, hv1, hv2, hpos⟩ := hP a hp
    have etn : tn (a 5 s) = E := by rw [e5, tnI (by omega)]
    rw [etn] at hR hx hk ⊢
    have hv0 : v = 0 := Classical.byContradiction fun h => by have := (hpos (by omega)).1; omega
    subst hv0
    rw [gThr1_0 e18] at hR
    have hg : gHdL s (0 + 1) a = a := by
      show (if _ then _ else _) = _
      rw [etn, e18, if_pos (Int32.le_refl _)]
    rw [hg, e18, show tn (nI 0) = 0 from rfl]
    refine ⟨μ, ν, ?_, hR, rfl, rfl, fun _ _ h => h⟩
    show b_X8_workInTurn_32 _ w μ ν _ _ _ _ _ _ = _
    unfold b_X8_workInTurn_32
    by_cases c : nI S ≤ nI x
    · rw [if_pos c]
    · rw [if_neg c, if_pos (show hv 0 = (0 : Int32) from rfl)]
  | succ k ih =>
    intro m x μ ν a hp hR hx hk hm
    obtain ⟨m, rfl⟩ : ∃ m', m = m' + 1 := ⟨m - 1, by omega⟩
    have hgo := hN a hp
    obtain ⟨E, v, e5, hE1, hE2, e4, hz, e18, hv1, hv2, hpos⟩ := hP a hp
    have etn : tn (a 5 s) = E := by rw [e5, tnI (by omega)]
    rw [etn] at hR hx hk hgo ⊢
    by_cases hv0 : v = 0
    · subst hv0
      rw [gThr1_0 e18] at hR
      have hg : gHdL s (k + 1 + 1) a = a := by
        show (if _ then _ else _) = _
        rw [etn, e18, if_pos (Int32.le_refl _)]
      rw [hg, e18, show tn (nI 0) = 0 from rfl]
      refine ⟨μ, ν, ?_, hR, rfl, rfl, fun _ _ h => h⟩
      show b_X8_workInTurn_32 _ w μ ν _ _ _ _ _ _ = _
      unfold b_X8_workInTurn_32
      by_cases c : nI S ≤ nI x
      · rw [if_pos c]
      · rw [if_neg c, if_pos (show hv 0 = (0 : Int32) from rfl)]
    · have hne : ¬ a 18 (8192 * s + E) ≤ nI 0 := by rw [e18]; exact fun h => hv0 ((nIleV (by omega)).mp h)
      obtain ⟨hES, htw⟩ := hpos (by omega)
      have hp' := hgo hne
      obtain ⟨f, hf⟩ : ∃ f, f = (if v = 1 then 0 else v - 2) := ⟨_, rfl⟩
      have h0 : gHd0 a s = gThr1 a s E := by unfold gHd0; rw [gThr1_p hne, etn]
      have hvf : hv v = (if f = 0 then nI 1 else nI f) := by
        unfold hv
        rw [if_neg hv0, hf]
        by_cases c : v = 1
        · rw [if_pos c, if_pos c, if_pos rfl]
        · rw [if_neg c, if_neg c, if_neg (by omega)]
      have hdf : hdF a s = f := by
        unfold hdF
        rw [etn, e18, tnI (by omega), hf]
        by_cases c : v = 1
        · rw [if_pos c, if_pos (by rw [c])]
        · rw [if_neg c, if_neg (fun h => c ((nI_eq (by omega) (by decide)).mp h))]
      have hfb : f ≤ 8191 ∧ f ≠ 1 := by
        rw [hf]; split <;> omega
      have hfz : f = 0 → v = 1 := fun h => by
        rw [hf] at h
        by_cases c : v = 1
        · exact c
        · rw [if_neg c] at h; omega
      obtain ⟨μ1, ν1, E', t1, t2, t3, t4, t5, t6, t7, t8⟩ := k_wstep (w := w) (S := S) (x := x) (E := E) (f := f) (K := l_X8_workInTurn_32 w m) hR hs hw (by rw [gThr1_k _ _ _ _ _ (by decide) (by decide)]; exact e5) hE1 hES hS (by rw [gThr1_4]; exact e4) hfb.1 hfb.2 (fun i hi => by
        rw [gThr1_p hne, up2_n _ _ (by omega), up2_n _ _ (by omega)]; exact hz i hi) hx (fun h => by rw [← h0]; exact htw (hfz h))
      have hd1 : gHd1 a s = gThrow (gTakes (gThr1 a s E) s E f) s := by unfold gHd1; rw [h0, etn, hdf]
      have e5' : gHd1 a s 5 s = nI E' := by rw [hd1]; exact (gThrL_k _ _ _ _ _ _ (by decide) (by decide)).trans t2
      have etn' : tn (gHd1 a s 5 s) = E' := by rw [e5', tnI (by omega)]
      rw [← hd1] at t1 t5
      obtain ⟨μ2, ν2, r1, r2, r3, r4, r5⟩ := ih m (x + 1) μ1 ν1 (gHd1 a s) hp' (by rw [etn']; exact t5) (by rw [etn']; omega) (by rw [etn']; omega) (by omega)
      rw [etn'] at r1
      have hg : gHdL s (k + 1 + 1) a = gHdL s (k + 1) (gHd1 a s) := by
        show (if _ then _ else _) = _
        rw [etn, if_neg hne]
      rw [hg]
      refine ⟨μ2, ν2, ?_, r2, r3.trans t6, ?_, fun c d h => r5 _ _ (t8 _ _ h)⟩
      · rw [← r1, ← t1, e18, tnI (by omega), hvf]
        rfl
      · rw [r4, ← bal_of (ν := ν) (ν' := ν) (a := a) (a' := gThr1 a s E) rfl (funext fun i => gThr1_4 a s E i), ← t7, hd1]
        exact bal_of rfl (funext fun i => gThrL_k _ _ _ _ _ _ (by decide) (by decide))
/-- working off in turn -/
theorem k_turn {w s S E f : Nat} {μ : MP} {ν : NC} {a : AS} (hR : RR μ ν a) (hs : s < 2) (hw : 8200 < w) (e5 : a 5 s = nI E) (hE : 1 ≤ E) (hES : E ≤ S) (hS : S ≤ 8190) (e4 : a 4 (1 - s) = nI S) (hf : f ≤ 8191) (hf1 : f ≠ 1) (hz : ∀ i, i < E → a 18 (8192 * s + i) = nI 0) (hV : f = 0 → twOk (up2 a 5 s (nI (E + 1))) s (8192 * (1 - s) + E)) (P : AS → Prop) (hP : ∀ a, P a → wiOk a s S) (hN : ∀ a, P a → ¬ a 18 (8192 * s + tn (a 5 s)) ≤ nI 0 → P (gHd1 a s)) (hp : P (gThrow (gTakes a s E f) s)) :
    ∃ (μ' : MP) (ν' : NC), f_X8_workInTurn w μ ν (nI s) (if f = 0 then nI 1 else nI f) = some ((μ', ν'), 0) ∧ RR μ' ν' (gHeld (gTakes a s E f) s) ∧ ν'.2 20 = ν.2 20 ∧ bal ν' (gHeld (gTakes a s E f) s) = bal ν a ∧ ∀ c d : Int, RC c d ν → RC c d ν' := by
  obtain ⟨w', hw'⟩ : ∃ w', w = w' + 1 := ⟨w - 1, by omega⟩
  obtain ⟨μ1, ν1, E', t1, t2, t3, t4, t5, t6, t7, t8⟩ := k_wstep (w := w) (S := S) (x := 0) (E := E) (f := f) (K := l_X8_workInTurn_32 w w') hR hs (show 8192 < w by omega) e5 hE hES hS e4 hf hf1 hz (by omega) hV
  generalize hA : gThrow (gTakes a s E f) s = A at t1 t5 hp
  have e5' : A 5 s = nI E' := by rw [← hA]; exact (gThrL_k _ _ _ _ _ _ (by decide) (by decide)).trans t2
  have etn' : tn (A 5 s) = E' := by rw [e5', tnI (by omega)]
  obtain ⟨μ2, ν2, r1, r2, r3, r4, r5⟩ := k_wit (w := w) hs (by omega) hS P hP hN 8192 w' 1 μ1 ν1 A hp (by rw [etn']; exact t5) (by rw [etn']; omega) (by omega) (by omega)
  rw [etn'] at r1
  have hg : gHeld (gTakes a s E f) s = gHdL s (8192 + 1) A := by rw [← hA]; rfl
  rw [hg]
  refine ⟨μ2, ν2, ?_, r2, r3.trans t6, ?_, fun c d h => r5 _ _ (t8 _ _ h)⟩
  · have hst : f_X8_workInTurn w μ ν (nI s) (if f = 0 then nI 1 else nI f) = l_X8_workInTurn_32 w w μ ν (nI s) (s + 1) (1 - s + 1) (if f = 0 then nI 1 else nI f) (nI S) (nI 0) := by
      obtain ⟨z0, z1, z2, z3, z4, z5, -⟩ := id hR.1
      unfold f_X8_workInTurn
      rw [ltt z0, k_party hR.1 hs, k_other hs]
      simp only [cond_true, Option.bind_some]
      rw [k_party hR.1 (show 1 - s < 2 by omega)]
      simp only [Option.bind_some]
      rw [nzs, Nat.add_sub_cancel, ltt (show 1 - s < ν.2 1 by omega), ltt (show 1 - s < ν.2 4 by omega)]
      simp only [cond_true, yl]
      rw [show μ.1 4 (1 - s) 2 = nI S from (hR.2.2.2.2.1.1 (1 - s) (by omega)).1.trans e4]
      rfl
    rw [hst, ← r1, ← t1]
    exact congrArg (fun g => g μ ν (nI s) (s + 1) (1 - s + 1) (if f = 0 then nI 1 else nI f) (nI S) (nI 0)) (show l_X8_workInTurn_32 w w = l_X8_workInTurn_32 w (w' + 1) by rw [hw'])
  · rw [r4, ← t7, ← hA]
    exact bal_of rfl (funext fun i => gThrL_k _ _ _ _ _ _ (by decide) (by decide))
