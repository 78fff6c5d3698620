/-! The queries that count: venues, totals, whether books agree. -/
/-- whether an order has been executed at a venue, among the first executions -/
def yvE (a : AS) (o v : Nat) : Nat → Bool
  | 0 => false
  | n + 1 => yvE a o v n || (decide (a 36 n = nI o) && decide (a 37 n = nI v))
theorem yvE_mono {a : AS} {o v n : Nat} (h : yvE a o v n = true) : ∀ d, yvE a o v (n + d) = true := by
  intro d
  induction d with
  | zero => exact h
  | succ d ih => show (yvE a o v (n + d) || _) = true; rw [ih]; rfl
def ybI (b : Bool) : Int32 := if b then nI 1 else nI 0
theorem k_hasL {w o v K : Nat} {μ : MP} {ν : NC} {a : AS} (hR : RR μ ν a) (ho : o < tn (a 0 22)) (hv : v < 3) (hK : tn (a 0 35) = K) : ∀ (d j m : Nat), j + d = K → d < m → yvE a o v j = false → l_X8_hasExecutedAt_2 w μ ν m (o + 1) (nI v) (nI j) = some (ybI (yvE a o v K)) := by
  obtain ⟨K', e35, hK', eK', m452, z4, z0, hg⟩ := exeK hR
  obtain rfl : K' = K := by omega
  obtain ⟨o1, o2, o3, -⟩ := ordOf hR ho
  intro d
  induction d with
  | zero =>
    intro j m h1 h2 h3
    obtain ⟨m, rfl⟩ : ∃ m', m = m' + 1 := ⟨m - 1, by omega⟩
    obtain rfl : j = K' := by omega
    unfold l_X8_hasExecutedAt_2 b_X8_hasExecutedAt_2
    rw [ltt z0, ltt z4, m452, if_pos (Int32.le_refl _), h3]
    rfl
  | succ d ih =>
    intro j m h1 h2 h3
    obtain ⟨m, rfl⟩ : ∃ m', m = m' + 1 := ⟨m - 1, by omega⟩
    have c : ¬ nI K' ≤ nI j := fun h => by have := (nI_leI (by omega) (by omega)).mp h; omega
    obtain ⟨p, g1, g2, g3, g4, g5, g6, g7, g8, g9, g10, g11, g12, g13, g14, g15, g16, v', g17, g18⟩ := exeAll hR (show j < tn (a 0 35) by omega)
    have h46 : yvE a o v (j + 1) = false → b_X8_hasExecutedAt_46 (l_X8_hasExecutedAt_2 w μ ν m) w μ ν (o + 1) (nI v) (nI j) = some (ybI (yvE a o v K')) := fun hv => by
      unfold b_X8_hasExecutedAt_46
      simp only [yl]
      rw [q1, nI_add]
      exact ih (j + 1) m (by omega) (by omega) hv
    have el : yvE a o v (j + 1) = (yvE a o v j || (decide (a 36 j = nI o) && decide (a 37 j = nI v))) := rfl
    rw [h3, Bool.false_or] at el
    unfold l_X8_hasExecutedAt_2 b_X8_hasExecutedAt_2
    rw [ltt z0, ltt z4, m452, if_neg c, hg j (by omega)]
    simp only [cond_true, Option.bind_some]
    rw [show eqB (eK 5 5) 23 = true from rfl, ltt g1, nzs, Nat.add_sub_cancel, ltt o1, g3, ltt g7, g8]
    simp only [cond_true]
    by_cases cp : p = o
    · rw [if_pos cp]
      by_cases cv : a 37 j = nI v
      · rw [if_pos cv]
        have ht : yvE a o v (j + 1) = true := by rw [el, decide_eq_true (show a 36 j = nI o by rw [g4, cp]), decide_eq_true cv]; rfl
        have hm := yvE_mono ht (K' - (j + 1))
        rw [show j + 1 + (K' - (j + 1)) = K' by omega] at hm
        rw [hm]; rfl
      · rw [if_neg cv]
        exact h46 (by rw [el, decide_eq_false cv, Bool.and_false])
    · rw [if_neg cp]
      exact h46 (by rw [el, decide_eq_false (show ¬ a 36 j = nI o from fun h => cp ((nI_eq (by omega) (by omega)).mp (g4.symm.trans h))), Bool.false_and])
theorem k_has {w o v K : Nat} {μ : MP} {ν : NC} {a : AS} (hR : RR μ ν a) (ho : o < tn (a 0 22)) (hv : v < 3) (hK : tn (a 0 35) = K) (hw : 101 < w) : f_X8_hasExecutedAt w μ ν (o + 1) (nI v) = some (ybI (yvE a o v K)) := by
  obtain ⟨K', e35, hK', eK', -⟩ := exeK hR
  exact k_hasL hR ho hv hK K 0 w (by omega) (by omega) rfl
def yvN (a : AS) (o K : Nat) : Nat → Nat
  | 0 => 0
  | v + 1 => yvN a o K v + (if yvE a o v K then 1 else 0)
theorem k_venL {w o K : Nat} {μ : MP} {ν : NC} {a : AS} (hR : RR μ ν a) (ho : o < tn (a 0 22)) (hK : tn (a 0 35) = K) (hw : 101 < w) : ∀ (d v m : Nat), v + d = 3 → d < m → l_X8_venues_11 w μ ν m (o + 1) (nI (yvN a o K v)) (nI v) = some (0, nI (yvN a o K 3)) := by
  intro d
  induction d with
  | zero =>
    intro v m h1 h2
    obtain ⟨m, rfl⟩ : ∃ m', m = m' + 1 := ⟨m - 1, by omega⟩
    obtain rfl : v = 3 := by omega
    unfold l_X8_venues_11 b_X8_venues_11
    rw [if_pos (show (3 : Int32) ≤ nI 3 by decide)]
  | succ d ih =>
    intro v m h1 h2
    obtain ⟨m, rfl⟩ : ∃ m', m = m' + 1 := ⟨m - 1, by omega⟩
    have c : ¬ (3 : Int32) ≤ nI v := fun h => by have := (nI_leI (a := 3) (by omega) (by omega)).mp h; omega
    have h30 : ∀ x : Nat, x = yvN a o K (v + 1) → b_X8_venues_30 (l_X8_venues_11 w μ ν m) w μ ν (o + 1) (nI x) (nI v) = some (0, nI (yvN a o K 3)) := fun x hx => by
      unfold b_X8_venues_30
      simp only [yl]
      rw [q1, nI_add, hx]
      exact ih (v + 1) m (by omega) (by omega)
    have el : yvN a o K (v + 1) = yvN a o K v + (if yvE a o v K then 1 else 0) := rfl
    unfold l_X8_venues_11 b_X8_venues_11
    rw [if_neg c, ltt hR.1.1, k_has hR ho (by omega) hK hw]
    simp only [cond_true, Option.bind_some]
    cases hb : yvE a o v K
    · rw [show ybI false = (0 : Int32) from rfl, if_pos rfl]
      exact h30 _ (by rw [el, hb]; rfl)
    · rw [show ybI true = nI 1 from rfl, if_neg n10]
      simp only [yl]
      rw [q1, nI_add]
      exact h30 _ (by rw [el, hb]; rfl)
/-- the set of venues, as the reference has it -/
def yvS (a : AS) (o n : Nat) : Int32 := ybI (yvE a o 0 n) + nI 2 * ybI (yvE a o 1 n) + nI 4 * ybI (yvE a o 2 n)
theorem yvS_or (a : AS) (o n v : Nat) (hv : v < 3) (h36 : a 36 n = nI o) (h37 : a 37 n = nI v) : yvS a o n ||| ((1 : Int32) <<< (nI v &&& 31)) = yvS a o (n + 1) := by
  have e : ∀ v', v' < 3 → yvE a o v' (n + 1) = (yvE a o v' n || decide (v = v')) := fun v' hv' => by
    show (yvE a o v' n || (decide (a 36 n = nI o) && decide (a 37 n = nI v'))) = _
    rw [decide_eq_true h36, Bool.true_and, h37]
    congr 1
    by_cases c : v = v'
    · rw [decide_eq_true c, decide_eq_true (by rw [c])]
    · rw [decide_eq_false c, decide_eq_false (fun h => c ((nI_eq (by omega) (by omega)).mp h))]
  unfold yvS
  rw [e 0 (by decide), e 1 (by decide), e 2 (by decide)]
  cases yvE a o 0 n <;> cases yvE a o 1 n <;> cases yvE a o 2 n <;> rcases (show v = 0 ∨ v = 1 ∨ v = 2 by omega) with rfl | rfl | rfl <;> decide
theorem yvS_no (a : AS) (o n : Nat) (h36 : ¬ a 36 n = nI o) : yvS a o n ||| (0 : Int32) = yvS a o (n + 1) := by
  have e : ∀ v', yvE a o v' (n + 1) = yvE a o v' n := fun v' => by
    show (yvE a o v' n || (decide (a 36 n = nI o) && decide (a 37 n = nI v'))) = _
    rw [decide_eq_false h36, Bool.false_and, Bool.or_false]
  unfold yvS
  rw [e 0, e 1, e 2]
  cases yvE a o 0 n <;> cases yvE a o 1 n <;> cases yvE a o 2 n <;> decide
theorem yvS_end (a : AS) (o n : Nat) : ((yvS a o n &&& (1 : Int32)) + ((yvS a o n >>> ((1 : Int32) &&& 31)) &&& (1 : Int32))) + ((yvS a o n >>> ((2 : Int32) &&& 31)) &&& (1 : Int32)) = nI (yvN a o n 3) := by
  unfold yvS
  rw [show yvN a o n 3 = ((0 + (if yvE a o 0 n then 1 else 0)) + (if yvE a o 1 n then 1 else 0)) + (if yvE a o 2 n then 1 else 0) from rfl]
  cases yvE a o 0 n <;> cases yvE a o 1 n <;> cases yvE a o 2 n <;> decide
theorem r_venL {w o K : Nat} {μ : MP} {ν : NC} {a : AS} (hR : RR μ ν a) (ha : a 0 0 = nI 0) (ho : o < tn (a 0 22)) (hK : tn (a 0 35) = K) : ∀ (d j m : Nat), j + d = K → d < m → l_X9_venues_4 w m a (nI o) (yvS a o j) (nI j) = some (a, nI (yvN a o K 3)) := by
  obtain ⟨K', e35, hK', eK', m452, z4, z0, hg⟩ := exeK hR
  obtain rfl : K' = K := by omega
  have hst : up2 a 0 0 (nI 0) = a := by
    funext k i
    by_cases c : k = 0 ∧ i = 0
    · obtain ⟨rfl, rfl⟩ := c
      rw [up2_s, ha]
    · rw [up2_n _ _ c]
  intro d
  induction d with
  | zero =>
    intro j m h1 h2
    obtain ⟨m, rfl⟩ : ∃ m', m = m' + 1 := ⟨m - 1, by omega⟩
    obtain rfl : j = K' := by omega
    unfold l_X9_venues_4 b_X9_venues_4
    rw [r_asksO hR ho]
    simp only [Option.bind_some]
    rw [if_neg n10, hst, e35, if_pos (Int32.le_refl _)]
    unfold b_X9_venues_51
    rw [yvS_end]
  | succ d ih =>
    intro j m h1 h2
    obtain ⟨m, rfl⟩ : ∃ m', m = m' + 1 := ⟨m - 1, by omega⟩
    have c : ¬ nI K' ≤ nI j := fun h => by have := (nI_leI (by omega) (by omega)).mp h; omega
    obtain ⟨p, g1, g2, g3, g4, g5, g6, g7, g8, g9, g10, g11, g12, g13, g14, g15, g16, v', g17, g18⟩ := exeAll hR (show j < tn (a 0 35) by omega)
    have h43 : ∀ s0 : Int32, yvS a o j ||| s0 = yvS a o (j + 1) → b_X9_venues_43 (l_X9_venues_4 w m) w a (nI o) (nI j) s0 (yvS a o j) = some (a, nI (yvN a o K' 3)) := fun s0 hs => by
      unfold b_X9_venues_43
      simp only [yl]
      rw [hs, q1, nI_add]
      exact ih (j + 1) m (by omega) (by omega)
    unfold l_X9_venues_4 b_X9_venues_4
    rw [r_asksO hR ho]
    simp only [Option.bind_some]
    rw [if_neg n10, hst, e35, if_neg c, ixn (show j < 100 by omega) (by decide), nI_clamp (by omega)]
    simp only [cond_true]
    by_cases cp : a 36 j = nI o
    · rw [if_pos cp, g17]
      exact h43 _ (yvS_or a o j v' g18 cp g17)
    · rw [if_neg cp]
      exact h43 _ (yvS_no a o j cp)
theorem o_venues {w : Nat} {μ : MP} {ν : NC} {a : AS} {x : Int32} (hR : RR μ ν a) (hw : 101 < w) : oq ν a (s_venues w μ ν a x) := by
  obtain ⟨K, e35, hK, eK, -⟩ := exeK hR
  unfold s_venues f_X8_venues f_X9_venues
  rw [ltt hR.1.1]
  rcases ordD hR x with ⟨o, ho, rfl⟩ | h
  · obtain ⟨w', rfl⟩ : ∃ w', w = w' + 1 := ⟨w - 1, by omega⟩
    have h1 : l_X9_venues_4 (w' + 1) (w' + 1) a (nI o) (0 : Int32) (0 : Int32) = l_X9_venues_4 (w' + 1) (w' + 1) (up2 a 0 0 (nI 0)) (nI o) (0 : Int32) (0 : Int32) := by
      have hs2 : up2 (up2 a 0 0 (nI 0)) 0 0 (nI 0) = up2 a 0 0 (nI 0) := by
        funext k i
        by_cases c : k = 0 ∧ i = 0
        · obtain ⟨rfl, rfl⟩ := c
          rw [up2_s, up2_s]
        · rw [up2_n _ _ c]
      unfold l_X9_venues_4 b_X9_venues_4
      rw [r_asksO hR ho, r_asksO (RR_stop (v := nI 0) hR) ho, hs2]
    have h2 := r_venL (w := w' + 1) (RR_stop (v := nI 0) hR) (up2_s _ _ _ _) ho eK K 0 (w' + 1) (by omega) (by omega)
    have h3 := k_venL (w := w' + 1) hR ho eK hw 3 0 (w' + 1) rfl (by omega)
    have e0 : yvS (up2 a 0 0 (nI 0)) o 0 = (0 : Int32) := by unfold yvS yvE; decide
    have eE : ∀ v n, yvE (up2 a 0 0 (nI 0)) o v n = yvE a o v n := fun v n => by
      induction n with
      | zero => rfl
      | succ n ih => unfold yvE; rw [ih]; rfl
    have eN : yvN (up2 a 0 0 (nI 0)) o K 3 = yvN a o K 3 := by
      simp only [yvN, eE]
    rw [e0] at h2
    rw [k_reqO hR ho, h1, show l_X9_venues_4 (w' + 1) (w' + 1) (up2 a 0 0 (nI 0)) (nI o) (0 : Int32) (0 : Int32) = _ from h2]
    simp only [cond_true, Option.bind_some]
    rw [eqs, show l_X8_venues_11 (w' + 1) μ ν (w' + 1) (o + 1) (0 : Int32) (0 : Int32) = _ from h3]
    simp only [cond_true, Option.bind_some]
    rw [r_thrown, up2_s, eN]
    exact oq_ok hR
  · obtain ⟨w', rfl⟩ : ∃ w', w = w' + 1 := ⟨w - 1, by omega⟩
    rw [k_reqOX hR h]
    simp only [cond_true, Option.bind_some]
    unfold l_X9_venues_4 b_X9_venues_4
    rw [r_asksOX hR h]
    simp only [Option.bind_some]
    rw [if_pos (show nI 0 = (0 : Int32) from rfl)]
    unfold b_X9_venues_51
    simp only [Option.bind_some]
    simp only [eq10, cond_false, Option.bind_some, r_thrown, up2_s]
    refine oq_x hR ?_ ?_ <;> decide
/-- totals -/
def tpO (a : AS) (s : Nat) (day dir : Int32) (e : Nat) : Prop := (a 42 (100 * s + e) ≠ nI 0 ∧ a 43 (100 * s + e) = nI 0) ∧ a 38 e = day ∧ a 23 (tn (a 36 e)) = dir
noncomputable def tS (a : AS) (s : Nat) (day dir what : Int32) : Nat → Int32
  | 0 => nI 0
  | e + 1 => @ite _ (tpO a s day dir e) (Classical.propDecidable _) (tS a s day dir what e + (if what = 0 then a 39 e else a 39 e * a 41 (100 * s + e))) (tS a s day dir what e)
theorem k_totL {w s K : Nat} {μ : MP} {ν : NC} {a : AS} {day dir what : Int32} (hR : RR μ ν a) (hs : s < 2) (hK : tn (a 0 35) = K) : ∀ (d j m : Nat), j + d = K → d < m → l_X8_total_40 w μ ν m (nI s) day dir what (tS a s day dir what j) (nI j) = some (0, tS a s day dir what K) := by
  obtain ⟨K', e35, hK', eK', m452, z4, z0, hg⟩ := exeK hR
  obtain rfl : K' = K := by omega
  intro d
  induction d with
  | zero =>
    intro j m h1 h2
    obtain ⟨m, rfl⟩ : ∃ m', m = m' + 1 := ⟨m - 1, by omega⟩
    obtain rfl : j = K' := by omega
    unfold l_X8_total_40 b_X8_total_40
    rw [ltt z0, ltt z4, m452, if_pos (Int32.le_refl _)]
    rfl
  | succ d ih =>
    intro j m h1 h2
    obtain ⟨m, rfl⟩ : ∃ m', m = m' + 1 := ⟨m - 1, by omega⟩
    have c : ¬ nI K' ≤ nI j := fun h => by have := (nI_leI (by omega) (by omega)).mp h; omega
    obtain ⟨p, g1, g2, g3, g4, g5, g6, g7, g8, g9, g10, g11, g12, g13, g14, g15, g16, g17⟩ := exeAll hR (show j < tn (a 0 35) by omega)
    have h126 : ∀ v : Int32, v = tS a s day dir what (j + 1) → b_X8_total_126 (l_X8_total_40 w μ ν m) w μ ν (nI s) day dir what v (nI j) = some (0, tS a s day dir what K') := fun v hv => by
      unfold b_X8_total_126
      simp only [yl]
      rw [hv, q1, nI_add]
      exact ih (j + 1) m (by omega) (by omega)
    have el : tS a s day dir what (j + 1) = @ite _ (tpO a s day dir j) (Classical.propDecidable _) (tS a s day dir what j + (if what = 0 then a 39 j else a 39 j * a 41 (100 * s + j))) (tS a s day dir what j) := rfl
    have o5 := (ordOf hR g5).2.2.2.2.1
    have ep : tn (a 36 j) = p := by rw [g4, tnI (by omega)]
    unfold l_X8_total_40 b_X8_total_40
    rw [ltt z0, ltt z4, m452, if_neg c, hg j (by omega)]
    simp only [cond_true, Option.bind_some]
    rw [show eqB (eK 5 5) 23 = true from rfl, ltt g1, g10, g3, ltt g7, o5, g9]
    simp only [cond_true]
    by_cases c1 : a 38 j = day
    · rw [if_pos c1]
      by_cases c2 : a 23 p = dir
      · rw [if_pos c2, k_counts hR hs (by omega)]
        simp only [Option.bind_some]
        by_cases cc : a 42 (100 * s + j) ≠ nI 0 ∧ a 43 (100 * s + j) = nI 0
        · rw [if_pos cc, if_neg n10]
          have ht : tpO a s day dir j := ⟨cc, c1, by rw [ep]; exact c2⟩
          rw [if_pos ht] at el
          by_cases cw : what = 0
          · rw [if_pos cw]
            rw [if_pos cw] at el
            unfold b_X8_total_123
            simp only [yl]
            exact h126 _ el.symm
          · rw [if_neg cw]
            rw [if_neg cw] at el
            have hp : f_X2_priceFor w μ ν j (nI s) = some (a 41 (100 * s + j)) := by
              unfold f_X2_priceFor
              rw [ltt g1]
              rcases (show s = 0 ∨ s = 1 by omega) with rfl | rfl
              · rw [if_neg (show ¬ nI 0 = (1 : Int32) by decide), g14, show 100 * 0 + j = j by omega]; rfl
              · rw [if_pos (show nI 1 = (1 : Int32) from rfl), g11, show 100 * 1 + j = 100 + j by omega]; rfl
            rw [hp]
            simp only [Option.bind_some]
            unfold b_X8_total_123
            simp only [yl]
            exact h126 _ el.symm
        · rw [if_neg cc, if_pos (show nI 0 = (0 : Int32) from rfl)]
          exact h126 _ (by rw [el, if_neg (show ¬ tpO a s day dir j from fun h => cc h.1)])
      · rw [if_neg c2]
        exact h126 _ (by rw [el, if_neg (show ¬ tpO a s day dir j from fun h => c2 (by rw [← ep]; exact h.2.2))])
    · rw [if_neg c1]
      exact h126 _ (by rw [el, if_neg (show ¬ tpO a s day dir j from fun h => c1 h.2.1)])
theorem r_totL {w s K : Nat} {μ : MP} {ν : NC} {a : AS} {day dir what : Int32} (hR : RR μ ν a) (ha : a 0 0 = nI 0) (hs : s < 2) (hK : tn (a 0 35) = K) : ∀ (d j m : Nat), j + d = K → d < m → l_X9_total_48 w m a (nI s) day dir what (tS a s day dir what j) (nI j) = some (a, tS a s day dir what K) := by
  obtain ⟨K', e35, hK', eK', m452, z4, z0, hg⟩ := exeK hR
  obtain rfl : K' = K := by omega
  intro d
  induction d with
  | zero =>
    intro j m h1 h2
    obtain ⟨m, rfl⟩ : ∃ m', m = m' + 1 := ⟨m - 1, by omega⟩
    obtain rfl : j = K' := by omega
    unfold l_X9_total_48 b_X9_total_48
    rw [e35, if_pos (Int32.le_refl _)]
  | succ d ih =>
    intro j m h1 h2
    obtain ⟨m, rfl⟩ : ∃ m', m = m' + 1 := ⟨m - 1, by omega⟩
    have c : ¬ nI K' ≤ nI j := fun h => by have := (nI_leI (by omega) (by omega)).mp h; omega
    obtain ⟨p, g1, g2, g3, g4, g5, g6, g7, g8, g9, g10, g11, g12, g13, g14, g15, g16, g17⟩ := exeAll hR (show j < tn (a 0 35) by omega)
    have h162 : ∀ u v : Int32, u + v = tS a s day dir what (j + 1) → b_X9_total_162 (l_X9_total_48 w m) w a (nI s) day dir what (nI j) v u = some (a, tS a s day dir what K') := fun u v hv => by
      unfold b_X9_total_162
      simp only [yl]
      rw [hv, q1, nI_add]
      exact ih (j + 1) m (by omega) (by omega)
    have el : tS a s day dir what (j + 1) = @ite _ (tpO a s day dir j) (Classical.propDecidable _) (tS a s day dir what j + (if what = 0 then a 39 j else a 39 j * a 41 (100 * s + j))) (tS a s day dir what j) := rfl
    have ep : tn (a 36 j) = p := by rw [g4, tnI (by omega)]
    have h124 : ¬ tpO a s day dir j → b_X9_total_124 (l_X9_total_48 w m) w a (nI s) day dir what (tS a s day dir what j) (nI j) (nI (100 * s + j)) = some (a, tS a s day dir what K') := fun hn => by
      unfold b_X9_total_124 b_X9_total_125
      rw [if_pos rfl]
      exact h162 _ _ (by rw [el, if_neg hn]; exact Int32.add_zero _)
    have h125 : tpO a s day dir j → b_X9_total_125 (l_X9_total_48 w m) w a (nI s) day dir what (tS a s day dir what j) (nI j) (nI (100 * s + j)) (1 : Int32) = some (a, tS a s day dir what K') := fun hn => by
      unfold b_X9_total_125
      rw [if_neg (show ¬ (1 : Int32) = 0 by decide), ixn (show j < 100 by omega) (by decide), nI_clamp (show j < 2 ^ 31 by omega)]
      simp only [cond_true]
      rw [if_pos hn] at el
      by_cases cw : what = 0
      · rw [if_pos cw]
        rw [if_pos cw] at el
        unfold b_X9_total_157
        exact h162 _ _ (by rw [el, Int32.mul_one])
      · rw [if_neg cw]
        rw [if_neg cw] at el
        rw [ixn (show 100 * s + j < 200 by omega) (by decide), nI_clamp (show 100 * s + j < 2 ^ 31 by omega)]
        simp only [cond_true]
        unfold b_X9_total_157
        exact h162 _ _ el.symm
    unfold l_X9_total_48 b_X9_total_48
    rw [e35, if_neg c, ha, if_pos (show nI 0 = (0 : Int32) from rfl)]
    simp only [yl]
    rw [q100, pk_mul, nI_add, ixn (show 100 * s + j < 200 by omega) (by decide), nI_clamp (show 100 * s + j < 2 ^ 31 by omega)]
    simp only [cond_true]
    by_cases c1 : a 42 (100 * s + j) = nI 0
    · rw [if_pos (show a 42 (100 * s + j) = (0 : Int32) from c1)]
      exact h124 (fun h => h.1.1 c1)
    · rw [if_neg (show ¬ a 42 (100 * s + j) = (0 : Int32) from c1)]
      by_cases c2 : a 43 (100 * s + j) = nI 0
      · rw [if_pos (show a 43 (100 * s + j) = (0 : Int32) from c2), ixn (show j < 100 by omega) (by decide), nI_clamp (show j < 2 ^ 31 by omega)]
        simp only [cond_true]
        by_cases c3 : a 38 j = day
        · rw [if_pos c3, g4, ixn (show p < 40 by omega) (by decide), nI_clamp (show p < 2 ^ 31 by omega)]
          simp only [cond_true]
          by_cases c4 : a 23 p = dir
          · rw [if_pos c4]
            exact h125 ⟨⟨c1, c2⟩, c3, by rw [ep]; exact c4⟩
          · rw [if_neg c4]
            exact h124 (fun h => c4 (by rw [← ep]; exact h.2.2))
        · rw [if_neg c3]
          exact h124 (fun h => c3 h.2.1)
      · rw [if_neg (show ¬ a 43 (100 * s + j) = (0 : Int32) from c2)]
        exact h124 (fun h => c2 h.1.2)
theorem r_tot39X {w : Nat} {μ : MP} {ν : NC} {a : AS} {x1 x2 x3 x4 : Int32} {t : Int32} (hR : RR μ ν a) (ht : ¬ t = 0) (hw : 1 < w) : b_X9_total_39 w a x1 x2 x3 x4 t = some (up2 a 0 0 t, nI 0) := by
  obtain ⟨w', rfl⟩ : ∃ w', w = w' + 1 := ⟨w - 1, by omega⟩
  unfold b_X9_total_39
  simp only [yl]
  unfold l_X9_total_48 b_X9_total_48
  by_cases c : up2 a 0 0 t 0 35 ≤ 0
  · rw [if_pos c]; rfl
  · rw [if_neg c, up2_s, if_neg ht]; rfl
theorem o_total {w : Nat} {μ : MP} {ν : NC} {a : AS} {x1 x2 x3 x4 : Int32} (hR : RR μ ν a) (hw : 101 < w) : oq ν a (s_total w μ ν a x1 x2 x3 x4) := by
  obtain ⟨K, e35, hK, eK, -⟩ := exeK hR
  have e10 := hR.2.2.1.2.2.1
  unfold s_total f_X8_total f_X9_total
  rw [ltt hR.1.1, e10]
  have hX : ∀ t : Int32, ¬ t = 0 → b_X9_total_39 w a x1 x2 (nz x3) x4 t = some (up2 a 0 0 t, nI 0) := fun t ht => r_tot39X hR ht (by omega)
  have h20 : b_X9_total_20 w a x1 x2 (nz x3) x4 = some (up2 a 0 0 1, nI 0) := hX 1 (by decide)
  rcases sideD x1 with ⟨s, hs, rfl⟩ | h
  · rw [k_side hs, r_isSide hs]
    simp only [Option.bind_some]
    rw [eqs, if_neg n10, r_in]
    simp only [cond_true, Option.bind_some]
    by_cases c1 : x2 < 0
    · rw [if_pos c1, if_pos (Or.inl c1), if_pos (show nI 0 = (0 : Int32) from rfl), h20]
      unfold b_X8_total_16
      simp only [Option.bind_some]
      simp only [eq10, cond_false, Option.bind_some, r_thrown, up2_s]
      refine oq_x hR ?_ ?_ <;> decide
    · rw [if_neg c1]
      by_cases c2 : a 0 44 < x2
      · rw [if_neg (Int32.not_le.mpr c2), if_pos (show x2 < 0 ∨ a 0 44 < x2 from Or.inr c2), if_pos (show nI 0 = (0 : Int32) from rfl), h20]
        unfold b_X8_total_16
        simp only [Option.bind_some]
        simp only [eq10, cond_false, Option.bind_some, r_thrown, up2_s]
        refine oq_x hR ?_ ?_ <;> decide
      · rw [if_pos (Int32.not_lt.mp c2), if_neg (show ¬ (x2 < 0 ∨ a 0 44 < x2) from fun h => h.elim c1 c2), if_neg n10, r_in, k_range]
        simp only [Option.bind_some]
        by_cases c3 : x4 < 0 ∨ 1 < x4
        · rw [if_pos (show rgX x4 0 1 from c3), if_pos c3, if_pos (show nI 0 = (0 : Int32) from rfl), hX 2 (by decide), show eqB 2 0 = false from rfl]
          simp only [cond_false, Option.bind_some]
          simp only [eq10, cond_false, Option.bind_some, r_thrown, up2_s]
          refine oq_x hR ?_ ?_ <;> decide
        · rw [if_neg (show ¬ rgX x4 0 1 from c3), if_neg c3, if_neg n10, eqs]
          simp only [cond_true]
          have hk := k_totL (w := w) (day := x2) (dir := nz x3) (what := x4) hR hs eK K 0 w (by omega) (by omega)
          have hr := r_totL (w := w) (day := x2) (dir := nz x3) (what := x4) (RR_stop (v := nI 0) hR) (up2_s _ _ _ _) hs eK K 0 w (by omega) (by omega)
          have hr' : b_X9_total_39 w a (nI s) x2 (nz x3) x4 (0 : Int32) = some (up2 a 0 0 (nI 0), tS (up2 a 0 0 (nI 0)) s x2 (nz x3) x4 K) := hr
          have et : ∀ n, tS (up2 a 0 0 (nI 0)) s x2 (nz x3) x4 n = tS a s x2 (nz x3) x4 n := fun n => by
            induction n with
            | zero => rfl
            | succ n ih => unfold tS; rw [ih]; rfl
          rw [show l_X8_total_40 w μ ν w (nI s) x2 (nz x3) x4 (0 : Int32) (0 : Int32) = _ from hk, hr', et]
          simp only [Option.bind_some]
          rw [r_thrown, up2_s]
          exact oq_ok hR
  · rw [k_sideX h, r_isSideX h]
    simp only [Option.bind_some]
    rw [if_pos (show nI 0 = (0 : Int32) from rfl), h20, show eqB 1 0 = false from rfl]
    simp only [cond_false, Option.bind_some]
    simp only [eq10, cond_false, Option.bind_some, r_thrown, up2_s]
    refine oq_x hR ?_ ?_ <;> decide
/-- whether the books of an order agree -/
def agO (a : AS) (o : Nat) : Prop := lfO a 0 o = lft a (40 + o) ∧ a 27 o = a 27 (40 + o) ∧ a 28 o = a 28 (40 + o)
def agA (a : AS) : Nat → Prop
  | 0 => True
  | o + 1 => agA a o ∧ (a 24 (40 + o) = nI 0 ∨ agO a o)
noncomputable def ypI (p : Prop) : Int32 := @ite _ p (Classical.propDecidable _) (nI 1) (nI 0)
theorem ypI_t {p : Prop} (h : p) : ypI p = nI 1 := if_pos h
theorem ypI_f {p : Prop} (h : ¬ p) : ypI p = nI 0 := if_neg h
theorem agA_le {a : AS} {n : Nat} : ∀ d, agA a (n + d) → agA a n := by
  intro d
  induction d with
  | zero => exact id
  | succ d ih => exact fun h => ih h.1
theorem k_agr {w o : Nat} {μ : MP} {ν : NC} {a : AS} (hR : RR μ ν a) (ho : o < tn (a 0 22)) : f_X4_booksAgree w μ ν o = some (ypI (agO a o)) := by
  obtain ⟨o1, o2, o3, o4, o5, o6, o7, o8, o9, o10, o11⟩ := ordOf hR ho
  obtain ⟨u1, u2, u3, u4⟩ := o11 0 (by decide)
  obtain ⟨v1, v2, v3, v4⟩ := o11 1 (by decide)
  simp only [Nat.mul_zero, Nat.zero_add, Nat.add_zero, Nat.mul_one] at u3 u4 v3 v4
  have e1 : lfO a 1 o = lft a (40 + o) := if_neg (fun h => absurd h.1 (by decide))
  unfold f_X4_booksAgree
  rw [ltt o1, show (0 : Int32) = nI 0 from rfl, show (1 : Int32) = nI 1 from rfl, k_leftFor hR (show 0 < 2 by decide) ho, k_leftFor hR (show 1 < 2 by decide) ho, ltt o2, ltt (show 2 * o < ν.2 21 by omega), u3, u4, v3, v4, e1]
  simp only [cond_true, Option.bind_some]
  by_cases c1 : lfO a 0 o = lft a (40 + o)
  · rw [if_pos c1]
    by_cases c2 : a 27 o = a 27 (40 + o)
    · rw [if_pos c2]
      by_cases c3 : a 28 o = a 28 (40 + o)
      · rw [if_pos c3, ypI_t ⟨c1, c2, c3⟩]
      · rw [if_neg c3, ypI_f (fun h => c3 h.2.2)]
    · rw [if_neg c2, ypI_f (fun h => c2 h.2.1)]
  · rw [if_neg c1, ypI_f (fun h => c1 h.1)]
theorem k_agrL {w k : Nat} {μ : MP} {ν : NC} {a : AS} (hR : RR μ ν a) (hk : tn (a 0 22) = k) : ∀ (d j m : Nat), j + d = k → d < m → agA a j → l_X8_agree_2 w μ ν m (nI j) = some (ypI (agA a k)) := by
  obtain ⟨y1, k', y2, y3, y4, y5, y6, y7, y8⟩ := id hR.2.2.2.2.2.2.2.1
  obtain rfl : k' = k := by rw [y2, tnI (by omega)] at hk; exact hk
  have z0 := hR.1.1
  have z4 := hR.1.2.2.2.2.1
  have hg : ∀ j, j < k' → ls_get μ ν 2 (nI j) = some j := fun j hj => k_get hR.1 (by decide) (y1.trans y2) (by omega) y5 y6 hj (y8 j hj).1 (show j < ν.2 (eK 5 2) by show j < ν.2 20; omega)
  intro d
  induction d with
  | zero =>
    intro j m h1 h2 h3
    obtain ⟨m, rfl⟩ : ∃ m', m = m' + 1 := ⟨m - 1, by omega⟩
    obtain rfl : j = k' := by omega
    unfold l_X8_agree_2 b_X8_agree_2
    rw [ltt z0, ltt (show 2 < ν.2 4 by omega), y1, y2, if_pos (Int32.le_refl _), ypI_t h3]
    rfl
  | succ d ih =>
    intro j m h1 h2 h3
    obtain ⟨m, rfl⟩ : ∃ m', m = m' + 1 := ⟨m - 1, by omega⟩
    have c : ¬ nI k' ≤ nI j := fun h => by have := (nI_leI (by omega) (by omega)).mp h; omega
    have hj : j < tn (a 0 22) := by omega
    obtain ⟨o1, o2, o3, o4, o5, o6, o7, o8, o9, -⟩ := ordOf hR hj
    have h41 : agA a (j + 1) → b_X8_agree_41 (l_X8_agree_2 w μ ν m) w μ ν (nI j) = some (ypI (agA a k')) := fun h => by
      unfold b_X8_agree_41
      simp only [yl]
      rw [q1, nI_add]
      exact ih (j + 1) m (by omega) (by omega) h
    unfold l_X8_agree_2 b_X8_agree_2
    rw [ltt z0, ltt (show 2 < ν.2 4 by omega), y1, y2, if_neg c, hg j (by omega)]
    simp only [cond_true, Option.bind_some]
    rw [show eqB (eK 5 2) 20 = true from rfl, ltt o1, o9]
    simp only [cond_true]
    by_cases c1 : a 24 (40 + j) = nI 0
    · rw [if_pos (show a 24 (40 + j) = (0 : Int32) from c1)]
      exact h41 ⟨h3, Or.inl c1⟩
    · rw [if_neg (show ¬ a 24 (40 + j) = (0 : Int32) from c1), k_agr hR hj]
      simp only [Option.bind_some]
      by_cases c2 : agO a j
      · rw [ypI_t c2, if_neg n10]
        exact h41 ⟨h3, Or.inr c2⟩
      · rw [ypI_f c2, if_pos (show nI 0 = (0 : Int32) from rfl)]
        have : ¬ agA a k' := fun h => by
          have h' := agA_le (n := j + 1) (k' - (j + 1)) (by rw [show j + 1 + (k' - (j + 1)) = k' by omega]; exact h)
          exact h'.2.elim c1 c2
        rw [ypI_f this]
        rfl
theorem r_agrL {w k : Nat} {a : AS} (hk : tn (a 0 22) = k) (e22 : a 0 22 = nI k) (hk4 : k ≤ 40) : ∀ (d j m : Nat), j + d = k → d < m → l_X9_agree_9 w m a (ypI (agA a j)) (nI j) = some (a, ypI (agA a k)) := by
  have hb : ∀ p : Prop, boB (ypI p) = true := fun p => by
    by_cases h : p
    · rw [ypI_t h]; rfl
    · rw [ypI_f h]; rfl
  intro d
  induction d with
  | zero =>
    intro j m h1 h2
    obtain ⟨m, rfl⟩ : ∃ m', m = m' + 1 := ⟨m - 1, by omega⟩
    obtain rfl : j = k := by omega
    unfold l_X9_agree_9 b_X9_agree_9
    rw [e22, if_pos (Int32.le_refl _), hb]
    rfl
  | succ d ih =>
    intro j m h1 h2
    obtain ⟨m, rfl⟩ : ∃ m', m = m' + 1 := ⟨m - 1, by omega⟩
    have c : ¬ nI k ≤ nI j := fun h => by have := (nI_leI (by omega) (by omega)).mp h; omega
    have h101 : ∀ v : Int32, v = ypI (agA a (j + 1)) → b_X9_agree_101 (l_X9_agree_9 w m) w a (nI j) v = some (a, ypI (agA a k)) := fun v hv => by
      unfold b_X9_agree_101
      simp only [yl]
      rw [hv, q1, nI_add]
      exact ih (j + 1) m (by omega) (by omega)
    have h100 : ¬ agA a (j + 1) → b_X9_agree_100 (l_X9_agree_9 w m) w a (nI j) = some (a, ypI (agA a k)) := fun h => h101 0 (ypI_f h).symm
    have h96 : agA a (j + 1) → b_X9_agree_96 (l_X9_agree_9 w m) w a (nI j) = some (a, ypI (agA a k)) := fun h => h101 1 (ypI_t h).symm
    have h75 : ∀ (p : Prop) (s0 : Int32), (p → s0 = nI 1) → (¬ p → s0 = nI 0) → (p ↔ agO a j) → b_X9_agree_75 (l_X9_agree_9 w m) w a (ypI (agA a j)) (nI j) s0 = some (a, ypI (agA a k)) := fun p s0 hp1 hp0 hpp => by
      unfold b_X9_agree_75
      by_cases ca : agA a j
      · rw [ypI_t ca, if_neg n10]
        by_cases cp : p
        · rw [hp1 cp, if_neg n10]
          exact h96 ⟨ca, Or.inr (hpp.mp cp)⟩
        · rw [hp0 cp, if_pos (show nI 0 = (0 : Int32) from rfl), q40, nI_add, ixn (show 40 + j < 80 by omega) (by decide), nI_clamp (by omega)]
          simp only [cond_true]
          by_cases c1 : a 24 (40 + j) = nI 0
          · rw [if_pos (show a 24 (40 + j) = (0 : Int32) from c1)]
            exact h96 ⟨ca, Or.inl c1⟩
          · rw [if_neg (show ¬ a 24 (40 + j) = (0 : Int32) from c1)]
            exact h100 (fun h => h.2.elim c1 (fun h => cp (hpp.mpr h)))
      · rw [ypI_f ca, if_pos (show nI 0 = (0 : Int32) from rfl)]
        exact h100 (fun h => ca h.1)
    have h74 : ¬ agO a j → b_X9_agree_74 (l_X9_agree_9 w m) w a (ypI (agA a j)) (nI j) = some (a, ypI (agA a k)) := fun h => h75 (agO a j) 0 (fun h' => absurd h' h) (fun _ => rfl) Iff.rfl
    unfold l_X9_agree_9 b_X9_agree_9
    rw [e22, if_neg c, show (0 : Int32) = nI 0 from rfl, r_leftOf (show 0 < 2 by decide) (show j < 40 by omega), if_neg (show ¬ noB a 0 j from fun h => absurd h.1 (by decide)), q40, nI_add, r_left (show 40 + j < 80 by omega)]
    simp only [Option.bind_some]
    by_cases c1 : lfO a 0 j = lft a (40 + j)
    · rw [if_pos c1, ixn (show j < 80 by omega) (by decide), ixn (show 40 + j < 80 by omega) (by decide), nI_clamp (show j < 2 ^ 31 by omega), nI_clamp (show 40 + j < 2 ^ 31 by omega)]
      simp only [cond_true]
      by_cases c2 : a 27 j = a 27 (40 + j)
      · rw [if_pos c2]
        by_cases c3 : a 28 j = a 28 (40 + j)
        · rw [if_pos c3]
          exact h75 (agO a j) 1 (fun _ => rfl) (fun h => absurd ⟨c1, c2, c3⟩ h) Iff.rfl
        · rw [if_neg c3]
          exact h74 (fun h => c3 h.2.2)
      · rw [if_neg c2]
        exact h74 (fun h => c2 h.2.1)
    · rw [if_neg c1]
      exact h74 (fun h => c1 h.1)
theorem o_agree {w : Nat} {μ : MP} {ν : NC} {a : AS} (hR : RR μ ν a) (hw : 41 < w) : oq ν a (s_agree w μ ν a) := by
  obtain ⟨k, e22, hk, ek⟩ := ordK hR
  have h1 := k_agrL (w := w) hR ek k 0 w (by omega) (by omega) trivial
  have h2 := r_agrL (w := w) (a := up2 a 0 0 (nI 0)) ek e22 hk k 0 w (by omega) (by omega)
  have e0 : ypI (agA (up2 a 0 0 (nI 0)) 0) = (1 : Int32) := ypI_t trivial
  have et : ∀ n, agA (up2 a 0 0 (nI 0)) n = agA a n := fun n => by
    induction n with
    | zero => rfl
    | succ n ih => unfold agA; rw [ih]; rfl
  rw [e0, et] at h2
  unfold s_agree f_X8_agree f_X9_agree
  rw [show l_X8_agree_2 w μ ν w (0 : Int32) = _ from h1]
  simp only [Option.bind_some, yl]
  rw [show l_X9_agree_9 w w (up2 a 0 0 (0 : Int32)) (1 : Int32) (0 : Int32) = _ from h2]
  simp only [Option.bind_some]
  rw [if_pos trivial]
  exact ⟨_, _, rfl, RR_stop hR⟩
