/-! An answer, whole: the class against the reference. -/
theorem k_leave {w m q n : Nat} {μ : MP} {ν : NC} {a : AS} {s : Nat} {v : Int32} (hR : RR μ ν (JJ a s v)) (hst : stays a q) (hm : m < ν.2 6) (hrel : msgRel (μ.1 6 m) (μ.1 8 m) (ν.1 8 m) (a 11) (a 12) (a 13) (a 14) (a 15) (a 16) (a 17) (a 37) (a 39) (a 40) q n) (hO : a 11 q = nI 5 → ∃ o : Nat, a 14 q = nI o ∧ o < tn (a 0 22)) (hw : 600 < w) :
    ∃ μ' : MP, f_X8_leaveOutOrderOf w μ ν (m + 1) = some (μ', 0) ∧ RR μ' ν (JJ (gLeave a q) s v) ∧ (∀ k, k ≠ 20 → μ'.1 k = μ.1 k) ∧ μ'.2 = μ.2 := by
  obtain ⟨r1, r2, r3, nb, fb, r4, r5, r6, r7⟩ := hrel
  unfold f_X8_leaveOutOrderOf
  rw [if_neg (Nat.succ_ne_zero m), Nat.add_sub_cancel, ltt hm, r1]
  simp only [cond_true]
  by_cases c : a 11 q = nI 5
  · obtain ⟨o, e14, ho⟩ := hO c
    have hold : old a q := hst.elim (fun h => by rw [c] at h; exact absurd h (by decide)) (fun h => h)
    have hg : gLeave a q = up2 a 29 o (nI 1) := by unfold gLeave; rw [if_pos hold, e14, tnI (by have := tn_lt (a 0 22); omega)]
    rw [if_pos (show a 11 q = 5 from c), hg]
    have hb : nb = 8 ∧ fb 0 = nI 11 ∧ fb 1 = a 14 q := by
      unfold bodyR at r7
      rw [c] at r7
      rcases r7 with ⟨h, -⟩ | ⟨h, -⟩ | h | ⟨h, -⟩ | ⟨h, -⟩ | ⟨h, -⟩
      · exact absurd h (by decide)
      · exact absurd h (by decide)
      · exact ⟨h.2.1, h.2.2.1, h.2.2.2.1⟩
      · exact absurd h (by decide)
      · exact absurd h (by decide)
      · exact absurd h (by decide)
    have hv := k_fld (w := w) (i := 0) (tag := 11) hm hR.1.2.2.2.2.2.2.2.2.2.2.2.2.2.2.2.2.1 r4 r5 r6 (by omega) hb.2.1 (by decide) (fun i' h => by omega) hw
    obtain ⟨f1, f2, f3⟩ := k_findO (w := w) (o := o) hR (by rw [JJ_k _ _ _ _ (by decide)]; exact ho)
    refine ⟨uM μ 20 o 5 1, ?_, RR_leftOut hR, fun k hk => up1_n _ _ hk, rfl⟩
    rw [show (11 : Int32) = nI 11 from rfl, hv, hb.2.2, e14]
    simp only [Option.bind_some, ltt hR.1.1, cond_true, f1, Nat.add_sub_cancel, ltt f2, yl]
    rw [if_neg (Nat.succ_ne_zero o)]
  · have hg : gLeave a q = a := by unfold gLeave; rw [if_neg (fun h => c h.1)]
    rw [if_neg (show ¬ a 11 q = 5 from c), hg]
    exact ⟨μ, rfl, hR, fun _ _ => rfl, rfl⟩
/-- what an answer wants of the messages -/
def ordIn (a : AS) (s : Nat) : Prop := ∀ n : Nat, 1 ≤ n → n ≤ tn (a 4 s) → a 11 (8192 * s + n) = nI 5 → ∃ o : Nat, a 14 (8192 * s + n) = nI o ∧ o < tn (a 0 22)
/-- how many messages a step of an answer, an answer puts on the way -/
def ansC (s : Nat) (x : AS × Nat) (n : Nat) : Nat := if stays x.1 (8192 * s + n) then 0 else if 0 < x.2 then 2 else 1
def ansN (s : Nat) : Nat → Nat → AS × Nat → Nat
  | 0, _, x => if 0 < x.2 then 1 else 0
  | d + 1, n, x => ansC s x n + ansN s d (n + 1) (gAns1 s x n)
theorem k_ans1 {w n c last : Nat} {μ : MP} {ν : NC} {x : AS × Nat} {s : Nat} {v : Int32} (k38 : MP → NC → Nat → Nat → Int32 → Int32 → Int32 → Option ((MP × NC) × Int32)) (hR : RR μ ν (JJ x.1 s v)) (hs : s < 2) (hl : tn (x.1 4 s) = last) (hl2 : last ≤ 8190) (h1 : 1 ≤ n) (hn : n ≤ last) (hx : x.2 < n) (e20 : x.1 20 (1 - s) = nI c) (hc : c + ansC s x n ≤ 65536) (hO : ordIn x.1 s) (hw : 600 < w) :
    ∃ (μ' : MP) (ν' : NC), b_X8_answer_38 k38 w μ ν (s + 1) (1 - s + 1) (nI last) (nI x.2) (nI n) = k38 μ' ν' (s + 1) (1 - s + 1) (nI last) (nI (gAns1 s x n).2) (nI (n + 1)) ∧ RR μ' ν' (JJ (gAns1 s x n).1 s (x.1 0 1)) ∧ ν'.2 = ν.2 ∧ ∀ c d : Int, RC c d ν → RC c d ν' := by
  have hR0 := hR.1
  obtain ⟨z0, z1, z2, z3, z4, z5, -⟩ := id hR0
  have hnow : μ.1 0 0 9 = x.1 0 1 := hR.2.2.1.2.1
  obtain ⟨m, e1, e2, e3, e4⟩ := k_msg (w := w) (n := n) hR hs h1 (by rw [JJ_k _ _ _ _ (by decide), hl]; exact hn)
  have hrel : msgRel (μ.1 6 m) (μ.1 8 m) (ν.1 8 m) (x.1 11) (x.1 12) (x.1 13) (x.1 14) (x.1 15) (x.1 16) (x.1 17) (x.1 37) (x.1 39) (x.1 40) (8192 * s + n) n := e4
  have hmay := k_may (w := w) hR0 hnow e3 hrel.1 hrel.2.1 hrel.2.2.1
  have c1 : ¬ nI last < nI n := fun h => by have := (nI_ltI (by omega) (by omega)).mp h; omega
  have n10 : ¬ nI 1 = nI 0 := by decide
  have h121 : ∀ (μ1 : MP) (ν1 : NC) (a1 : AS) (v1 : Int32) (g : Nat), RR μ1 ν1 (JJ a1 s v1) → μ1.1 0 0 9 = x.1 0 1 → b_X8_answer_121 k38 w μ1 ν1 (s + 1) (1 - s + 1) (nI last) (nI g) (nI n) = k38 (uM μ1 1 s 7 (x.1 0 1)) ν1 (s + 1) (1 - s + 1) (nI last) (nI g) (nI (n + 1)) ∧ RR (uM μ1 1 s 7 (x.1 0 1)) ν1 (JJ a1 s (x.1 0 1)) := fun μ1 ν1 a1 v1 g hr hnow1 => by
    refine ⟨?_, RR_sent hr⟩
    unfold b_X8_answer_121
    have w1 := hr.1.2.1
    simp only [ltt hr.1.1, nzs, Nat.add_sub_cancel, ltt (show s < ν1.2 1 by omega), cond_true, yl, hnow1]
    rw [q1, nI_add]
  unfold b_X8_answer_38
  rw [if_neg c1]
  simp only [nzs, Nat.add_sub_cancel, ltt (show s < ν.2 1 by omega), cond_true, e1, Option.bind_some, Nat.succ_ne_zero, if_false, ltt z0, hmay]
  by_cases hst : stays x.1 (8192 * s + n)
  · rw [if_pos hst]
    obtain ⟨μ1, l1, l2, l3, l4⟩ := k_leave (w := w) hR hst e3 hrel (fun h => hO n h1 (by omega) h) hw
    have hg : gAns1 s x n = (gLeave x.1 (8192 * s + n), if x.2 = 0 then n else x.2) := if_pos hst
    obtain ⟨r1, r2⟩ := h121 μ1 ν (gLeave x.1 (8192 * s + n)) v (if x.2 = 0 then n else x.2) l2 (by rw [l3 0 (by decide)]; exact hnow)
    refine ⟨_, ν, ?_, by rw [hg]; exact r2, rfl, fun _ _ h => h⟩
    rw [hg, ← r1]
    unfold b_X8_answer_101
    simp only [ltt z0, cond_true, l1, Option.bind_some]
    rw [q0, if_pos rfl]
    unfold b_X8_answer_119
    by_cases cx : x.2 = 0
    · rw [if_pos (show nI x.2 = nI 0 by rw [cx]), if_pos cx]
    · rw [if_neg (show ¬ nI x.2 = nI 0 from nIne (by omega) (by decide) cx), if_neg cx]
  · have hcc : ansC s x n = if 0 < x.2 then 2 else 1 := if_neg hst
    rw [hcc] at hc
    rw [if_neg hst, q0, if_neg n10]
    have hg : gAns1 s x n = (gGoes (up2 (if 0 < x.2 then gGoes (gLeave x.1 (8192 * s + n)) s x.2 n else gLeave x.1 (8192 * s + n)) 13 (8192 * s + n) (nI 1)) s n 0, 0) := if_neg hst
    have hgl : gLeave x.1 (8192 * s + n) = x.1 := by unfold gLeave; rw [if_neg (fun h => hst (Or.inr h))]
    rw [hg, hgl]
    have h84 : ∀ (μ1 : MP) (ν1 : NC) (a1 : AS) (c1 : Nat), RR μ1 ν1 (JJ a1 s v) → μ1.1 0 0 9 = x.1 0 1 → μ1.2 = μ.2 → ν1.2 = ν.2 → a1 4 s = x.1 4 s → a1 20 (1 - s) = nI c1 → c1 + 1 ≤ 65536 → ∃ (μ' : MP) (ν' : NC), b_X8_answer_84 k38 w μ1 ν1 (s + 1) (1 - s + 1) (nI last) (nI 0) (nI n) (m + 1) = k38 μ' ν' (s + 1) (1 - s + 1) (nI last) (nI 0) (nI (n + 1)) ∧ RR μ' ν' (JJ (gGoes (up2 a1 13 (8192 * s + n) (nI 1)) s n 0) s (x.1 0 1)) ∧ ν'.2 = ν1.2 ∧ ∀ c d : Int, RC c d ν1 → RC c d ν' := fun μ1 ν1 a1 c1 hr hnow1 p2 v2 e4' e20' hc1 => by
      have hr2 := RR_again (n := n) hr hs h1 (by rw [e4', hl]; exact hn) (by rw [p2]; exact e2)
      obtain ⟨μ2, ν2, p1, p3, p4, p5, p6, p7⟩ := k_putJ (w := w) (n := n) (f := 0) hr2 hs ((up2_n _ _ (by omega)).trans e20') hc1 (by omega) (by omega) (by omega)
      obtain ⟨r1, r2⟩ := h121 μ2 ν2 (gGoes (up2 a1 13 (8192 * s + n) (nI 1)) s n 0) v 0 p3 (by rw [p4 0 (by decide) (by decide) (by decide) (by decide)]; exact hnow1)
      refine ⟨_, ν2, ?_, r2, p6, p7⟩
      rw [← r1]
      unfold b_X8_answer_84
      have w1 := hr.1.2.1
      have w2 := hr.1.2.2.1
      rw [if_pos rfl] at p1
      simp only [nzs, Nat.add_sub_cancel, ltt (show m < ν1.2 6 by rw [v2]; exact e3), cond_true, yl, ltt (show 1 - s < ν1.2 2 by omega), ltt hr.1.1, decide_eq_true (show s + 1 ≤ ν1.2 1 by omega), q1]
      rw [q1] at p1
      rw [p1]
      simp only [Option.bind_some]
      rfl
    by_cases cx : 0 < x.2
    · rw [if_pos cx] at hc
      rw [if_neg (show ¬ nI x.2 = nI 0 from nIne (by omega) (by decide) (by omega)), if_pos cx]
      obtain ⟨μ2, ν2, p1, p3, p4, p5, p6, p7⟩ := k_putJ (w := w) (n := x.2) (f := n) hR hs e20 (by omega) (by omega) (by omega) (by omega)
      rw [if_neg (show ¬ n = 0 by omega)] at p1
      obtain ⟨μ', ν', t1, t2, t3, t4⟩ := h84 μ2 ν2 (gGoes x.1 s x.2 n) (c + 1) p3 (by rw [p4 0 (by decide) (by decide) (by decide) (by decide)]; exact hnow) p5 p6 (gGoes_k _ _ _ _ _ _ (by decide) (by decide) (by decide)) (gGoes_20 _ _ _ _ _ e20 (by omega)) (by omega)
      refine ⟨μ', ν', ?_, t2, t3.trans p6, fun c d h => t4 c d (p7 c d h)⟩
      simp only [ltt (show 1 - s < ν.2 2 by omega), ltt e3, cond_true, p1, Option.bind_some]
      unfold b_X8_answer_81
      exact t1
    · rw [if_neg cx] at hc
      obtain ⟨μ', ν', t1, t2, t3, t4⟩ := h84 μ ν x.1 c hR hnow rfl rfl rfl e20 (by omega)
      rw [if_pos (show nI x.2 = nI 0 by rw [show x.2 = 0 by omega]), if_neg cx]
      refine ⟨μ', ν', ?_, t2, t3, t4⟩
      rw [show nI x.2 = nI 0 by rw [show x.2 = 0 by omega]]
      exact t1
theorem gAns1_2 (s : Nat) (x : AS × Nat) (n : Nat) (hx : x.2 < n) : (gAns1 s x n).2 < n + 1 := by
  unfold gAns1
  split
  · show (if x.2 = 0 then n else x.2) < n + 1
    split <;> omega
  · exact Nat.succ_pos _
theorem k_ansL {w last : Nat} {s : Nat} (hs : s < 2) (hl2 : last ≤ 8190) (hw : 600 < w) : ∀ (d n m c : Nat) (μ : MP) (ν : NC) (x : AS × Nat) (v : Int32), n + d = last + 1 → d < m → RR μ ν (JJ x.1 s v) → tn (x.1 4 s) = last → 1 ≤ n → x.2 < n → x.1 20 (1 - s) = nI c → c + ansN s d n x ≤ 65536 → ordIn x.1 s →
    ∃ (μ' : MP) (ν' : NC), l_X8_answer_38 w m μ ν (s + 1) (1 - s + 1) (nI last) (nI x.2) (nI n) = some ((μ', ν'), 0) ∧ RR μ' ν' (JJ (gAnsE s last (gAnsL s d n x)) s (if d = 0 then v else x.1 0 1)) ∧ ν'.2 = ν.2 ∧ ∀ c d : Int, RC c d ν → RC c d ν' := by
  intro d
  induction d with
  | zero =>
    intro n m c μ ν x v h1 h2 hR hl hn hx e20 hc hO
    obtain ⟨m, rfl⟩ : ∃ m', m = m' + 1 := ⟨m - 1, by omega⟩
    obtain ⟨z0, z1, z2, -⟩ := id hR.1
    have c1 : nI last < nI n := (nI_ltI (by omega) (by omega)).mpr (by omega)
    rw [if_pos rfl]
    show ∃ (μ' : MP) (ν' : NC), b_X8_answer_38 _ w μ ν (s + 1) (1 - s + 1) (nI last) (nI x.2) (nI n) = _ ∧ _
    unfold b_X8_answer_38 gAnsL gAnsE
    rw [if_pos c1, q0]
    by_cases cx : 0 < x.2
    · rw [if_neg (show ¬ nI x.2 = nI 0 from nIne (by omega) (by decide) (by omega)), if_pos cx]
      obtain ⟨μ2, ν2, p1, p3, p4, p5, p6, p7⟩ := k_putJ (w := w) (n := x.2) (f := last + 1) hR hs e20 (by unfold ansN at hc; rw [if_pos cx] at hc; exact hc) (by omega) (by omega) (by omega)
      rw [if_neg (show ¬ last + 1 = 0 by omega)] at p1
      refine ⟨μ2, ν2, ?_, p3, p6, p7⟩
      simp only [nzs, Nat.add_sub_cancel, ltt (show 1 - s < ν.2 2 by omega), ltt z0, cond_true]
      rw [q1, nI_add, p1]
      rfl
    · rw [if_pos (show nI x.2 = nI 0 by rw [show x.2 = 0 by omega]), if_neg cx]
      exact ⟨μ, ν, rfl, hR, rfl, fun _ _ h => h⟩
  | succ d ih =>
    intro n m c μ ν x v h1 h2 hR hl hn hx e20 hc hO
    obtain ⟨m, rfl⟩ : ∃ m', m = m' + 1 := ⟨m - 1, by omega⟩
    obtain ⟨μ1, ν1, r1, r2, r3, r4⟩ := k_ans1 (w := w) (n := n) (c := c) (l_X8_answer_38 w m) hR hs hl hl2 hn (by omega) hx e20 (by have : ansN s (d + 1) n x = ansC s x n + ansN s d (n + 1) (gAns1 s x n) := rfl; omega) hO hw
    have gk : ∀ k i, k ≠ 29 → k ≠ 21 → k ≠ 20 → k ≠ 9 → k ≠ 13 → (gAns1 s x n).1 k i = x.1 k i := fun k i => gAns1_k s x n k i
    have hN : ansN s (d + 1) n x = ansC s x n + ansN s d (n + 1) (gAns1 s x n) := rfl
    have e20' : ∃ c' : Nat, (gAns1 s x n).1 20 (1 - s) = nI c' ∧ c' = c + ansC s x n := by
      have hl' : gLeave x.1 (8192 * s + n) 20 (1 - s) = nI c := (gLeave_k _ _ _ _ (by decide)).trans e20
      have hcb : c + 2 ≤ 2 ^ 30 := by have : ansC s x n ≤ 2 := by { unfold ansC; split; omega; split <;> omega }; omega
      unfold gAns1 ansC
      by_cases hst : stays x.1 (8192 * s + n)
      · rw [if_pos hst, if_pos hst]; exact ⟨c, hl', rfl⟩
      · rw [if_neg hst, if_neg hst]
        by_cases cx : 0 < x.2
        · rw [if_pos cx, if_pos cx]
          exact ⟨c + 1 + 1, gGoes_20 _ _ _ _ _ (by rw [up2_n _ _ (by omega)]; exact gGoes_20 _ _ _ _ _ hl' (by omega)) (by omega), by omega⟩
        · rw [if_neg cx, if_neg cx]
          exact ⟨c + 1, gGoes_20 _ _ _ _ _ (by rw [up2_n _ _ (by omega)]; exact hl') (by omega), by omega⟩
    obtain ⟨c', e20', hc'⟩ := e20'
    obtain ⟨μ2, ν2, t1, t2, t3, t4⟩ := ih (n + 1) m c' μ1 ν1 (gAns1 s x n) (x.1 0 1) (by omega) (by omega) r2 (by rw [gk 4 s (by decide) (by decide) (by decide) (by decide) (by decide)]; exact hl) (by omega) (gAns1_2 s x n hx) e20' (by omega) (fun j q1 q2 q3 => by
      rw [gk 4 s (by decide) (by decide) (by decide) (by decide) (by decide)] at q2
      rw [gk 11 _ (by decide) (by decide) (by decide) (by decide) (by decide)] at q3
      rw [gk 14 _ (by decide) (by decide) (by decide) (by decide) (by decide), gk 0 22 (by decide) (by decide) (by decide) (by decide) (by decide)]
      exact hO j q1 q2 q3)
    rw [gk 0 1 (by decide) (by decide) (by decide) (by decide) (by decide)] at t2
    refine ⟨μ2, ν2, ?_, ?_, t3.trans r3, fun c d h => t4 c d (r4 c d h)⟩
    · exact (show l_X8_answer_38 w (m + 1) μ ν (s + 1) (1 - s + 1) (nI last) (nI x.2) (nI n) = _ from r1).trans t1
    · rw [if_neg (Nat.succ_ne_zero d)]
      by_cases hd : d = 0
      · subst hd; rw [if_pos rfl] at t2; exact t2
      · rw [if_neg hd] at t2; exact t2
