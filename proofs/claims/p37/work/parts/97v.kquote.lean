/-! Quotes: the class walks its list of rank, the reference looks for the next in rank. -/
theorem gRoutes_q (a : AS) (o k i : Nat) (h : k = 23 ∨ k = 24 ∨ k = 25 ∨ k = 26 ∨ k = 28 ∨ k = 31 ∨ (k = 0 ∧ i ≠ 35)) : gRoutes a o k i = a k i := by
  have hl : gRouteL o 102 a k i = a k i := gRouteL_k o 102 a k i (by omega) (by omega) (by omega) (by omega)
  unfold gRoutes
  split
  · exact hl
  · unfold gRep
    rw [gSends_k _ _ _ _ _ _ _ _ _ (by omega) (by omega) (by omega) (by omega) (by omega)]
    exact hl
theorem gRouteL_27 (o i : Nat) (h : i ≠ 40 + o) : ∀ (n : Nat) (a : AS), gRouteL o n a 27 i = a 27 i := by
  intro n
  induction n with
  | zero => intro a; rfl
  | succ n ih =>
    intro a
    unfold gRouteL
    split
    · rfl
    · rw [ih]
      unfold gTrade
      simp (disch := omega) only [up2_n]
theorem gRoutes_27 (a : AS) (o i : Nat) (h : i ≠ 40 + o) : gRoutes a o 27 i = a 27 i := by
  unfold gRoutes
  split
  · exact gRouteL_27 o i h 102 a
  · unfold gRep
    rw [gSends_k _ _ _ _ _ _ _ _ _ (by decide) (by decide) (by decide) (by decide) (by decide)]
    exact gRouteL_27 o i h 102 a
theorem gRoutes_lft (a : AS) {o o' : Nat} (h : o' ≠ o) : lft (gRoutes a o) (40 + o') = lft a (40 + o') := by
  unfold lft
  rw [gRoutes_q a o 26 _ (by omega), gRoutes_q a o 28 _ (by omega), gRoutes_27 a o _ (by omega)]
theorem gRoutes_id {a : AS} {o : Nat} (h : lft a (40 + o) ≤ nI 0) : gRoutes a o = a := by
  have e : gRouteL o 102 a = a := by
    rw [show (102 : Nat) = 101 + 1 from rfl]
    unfold gRouteL
    rw [if_pos (Or.inr (Or.inl h))]
  unfold gRoutes
  rw [e, if_pos (Nat.le_refl _)]
/-- a list of rank -/
def rl (a : AS) (P : Nat → Nat) (k d : Nat) : Prop := (∀ i, i < k → ∃ o : Nat, P i = o + 1 ∧ o < tn (a 0 22) ∧ a 24 (40 + o) ≠ nI 0 ∧ a 23 o = nI d) ∧ (∀ o, o < tn (a 0 22) → a 24 (40 + o) ≠ nI 0 → a 23 o = nI d → ∃ i, i < k ∧ P i = o + 1) ∧ ∀ i j, i < j → j < k → aheadR (a 23) (a 25) (a 31) (P i - 1) (P j - 1)
theorem rl_of {μ : MP} {ν : NC} {a : AS} {d : Nat} (hR : RR μ ν a) (hd : d < 2) : ∃ k : Nat, μ.1 4 (3 + d) 2 = nI k ∧ k ≤ 40 ∧ k ≤ ν.1 5 (3 + d) ∧ ν.1 5 (3 + d) ≤ 12300 ∧ rl a (μ.2 5 (3 + d)) k d := by
  obtain ⟨k, w1, w2, w3, w4, w5, w6, w7, w8⟩ := hR.2.2.2.2.2.2.2.2.2.2 d hd
  exact ⟨k, w1, w2, w3, w4, w6, w7, w8⟩
theorem rl_eq {a a' : AS} {P : Nat → Nat} {k d : Nat} (h : rl a P k d) (h22 : a' 0 22 = a 0 22) (h23 : a' 23 = a 23) (h24 : a' 24 = a 24) (h25 : a' 25 = a 25) (h31 : a' 31 = a 31) : rl a' P k d := by
  unfold rl at h ⊢
  rw [h22, h23, h24, h25, h31]
  exact h
theorem rl_routes {a : AS} {P : Nat → Nat} {k d o : Nat} (h : rl a P k d) : rl (gRoutes a o) P k d :=
  rl_eq h (gRoutes_q _ _ _ _ (by omega)) (funext fun i => gRoutes_q _ _ _ _ (by omega)) (funext fun i => gRoutes_q _ _ _ _ (by omega)) (funext fun i => gRoutes_q _ _ _ _ (by omega)) (funext fun i => gRoutes_q _ _ _ _ (by omega))
theorem ahead_asym {b23 b25 b31 : Nat → Int32} {o o' : Nat} (e : b23 o = b23 o') (h : aheadR b23 b25 b31 o o') : ¬ aheadR b23 b25 b31 o' o := fun h' => by
  unfold aheadR at h h'
  rw [e] at h
  rcases h with ⟨h1, h2⟩ | ⟨h1, h2⟩
  · rcases h' with ⟨h3, h4⟩ | ⟨h3, h4⟩
    · rw [Int32.lt_iff_toInt_lt] at h2 h4; omega
    · exact h3 h1.symm
  · rcases h' with ⟨h3, h4⟩ | ⟨h3, h4⟩
    · exact h1 h3.symm
    · rcases h2 with ⟨g1, g2⟩ | ⟨g1, g2⟩ <;> rcases h4 with ⟨g3, g4⟩ | ⟨g3, g4⟩
      · rw [Int32.lt_iff_toInt_lt] at g2 g4; omega
      · exact g3 g1
      · exact g1 g3
      · rw [Int32.lt_iff_toInt_lt] at g2 g4; omega
theorem rl_asym {a : AS} {P : Nat → Nat} {k d i j : Nat} (h : rl a P k d) (hi : i < k) (hj : j < k) (hh : aheadR (a 23) (a 25) (a 31) (P i - 1) (P j - 1)) : ¬ aheadR (a 23) (a 25) (a 31) (P j - 1) (P i - 1) := by
  obtain ⟨o, p1, p2, p3, p4⟩ := h.1 i hi
  obtain ⟨o', r1, r2, r3, r4⟩ := h.1 j hj
  rw [p1, r1, Nat.add_sub_cancel, Nat.add_sub_cancel] at hh ⊢
  exact ahead_asym (by rw [p4, r4]) hh
theorem rl_lt {a : AS} {P : Nat → Nat} {k d i j : Nat} (h : rl a P k d) (hi : i < k) (hj : j < k) : aheadR (a 23) (a 25) (a 31) (P i - 1) (P j - 1) ↔ i < j := by
  constructor
  · intro hh
    rcases Nat.lt_trichotomy i j with c | c | c
    · exact c
    · subst c; exact absurd hh (rl_asym h hi hi hh)
    · exact absurd hh (rl_asym h hj hi (h.2.2 j i c hi))
  · exact fun c => h.2.2 i j c hj
theorem rl_inj {a : AS} {P : Nat → Nat} {k d i j : Nat} (h : rl a P k d) (hi : i < k) (hj : j < k) (e : P i = P j) : i = j := by
  rcases Nat.lt_trichotomy i j with c | c | c
  · have hh := h.2.2 i j c hj
    have h2 := hh
    rw [e] at h2
    exact absurd h2 (rl_asym h hj hj h2)
  · exact c
  · have hh := h.2.2 j i c hi
    have h2 := hh
    rw [e] at h2
    exact absurd h2 (rl_asym h hj hj h2)
theorem rl_uniq {a : AS} {P Q : Nat → Nat} {k l d : Nat} (h : rl a P k d) (g : rl a Q l d) : l = k ∧ ∀ i, i < k → Q i = P i := by
  have key : ∀ n i, i < n → i < k → i < l → Q i = P i := by
    intro n
    induction n with
    | zero => intro i hi; omega
    | succ n ih =>
      intro i hn hk hl
      have hlt : ∀ j, j < i → Q j = P j := fun j hj => ih j (by omega) (by omega) (by omega)
      obtain ⟨o, p1, p2, p3, p4⟩ := h.1 i hk
      obtain ⟨m, m1, m2⟩ := g.2.1 o p2 p3 p4
      have hmi : i ≤ m := by
        rcases Nat.lt_or_ge m i with c | c
        · have := rl_inj h (show m < k by omega) hk (by rw [← hlt m c, m2, p1])
          omega
        · exact c
      rcases Nat.lt_or_ge i m with c | c
      · obtain ⟨o', r1, r2, r3, r4⟩ := g.1 i hl
        obtain ⟨n', n1, n2⟩ := h.2.1 o' r2 r3 r4
        have hni : i ≤ n' := by
          rcases Nat.lt_or_ge n' i with c' | c'
          · have := rl_inj g (show n' < l by omega) hl (by rw [hlt n' c', n2, r1])
            omega
          · exact c'
        have hne : i ≠ n' := fun e => by
          have e1 : P i = Q i := by rw [r1, ← n2, e]
          have := rl_inj g hl m1 (by rw [m2, ← p1, e1])
          omega
        have a1 := g.2.2 i m c m1
        have a2 := h.2.2 i n' (by omega) n1
        rw [r1, m2, Nat.add_sub_cancel, Nat.add_sub_cancel] at a1
        rw [p1, n2, Nat.add_sub_cancel, Nat.add_sub_cancel] at a2
        exact absurd a2 (ahead_asym (by rw [r4, p4]) a1)
      · have : m = i := by omega
        subst this
        rw [m2, p1]
  have hkl : l = k := by
    rcases Nat.lt_trichotomy l k with c | c | c
    · obtain ⟨o, p1, p2, p3, p4⟩ := h.1 l c
      obtain ⟨m, m1, m2⟩ := g.2.1 o p2 p3 p4
      have e1 := key (m + 1) m (by omega) (by omega) m1
      have := rl_inj h (show m < k by omega) c (by rw [← e1, m2, p1])
      omega
    · exact c
    · obtain ⟨o, p1, p2, p3, p4⟩ := g.1 k c
      obtain ⟨m, m1, m2⟩ := h.2.1 o p2 p3 p4
      have e1 := key (m + 1) m (by omega) m1 (by omega)
      have := rl_inj g (show m < l by omega) c (by rw [e1, m2, p1])
      omega
  exact ⟨hkl, fun i hi => key (i + 1) i (by omega) hi (by omega)⟩
/-- the orders of a list are routed in turn -/
def gQL (p : Nat → Nat) : Nat → Nat → AS → AS
  | 0, _, a => a
  | g + 1, i, a => gQL p g (i + 1) (gRoutes a (p i))
/-- what routing wants of a state -/
def rtOk (a : AS) : Prop := fOk a ∧ frE a ∧ roomS a 1 1
theorem k_quoL {w d K : Nat} {p : Nat → Nat} {x6 : Int32} (hd : d < 2) (hw : 200 < w) : ∀ (g i m : Nat) (μ : MP) (ν : NC) (a : AS), RR μ ν a → rl a (fun i => p i + 1) K d → i + g = K → g < m → (∀ j, j < g → rtOk (gQL p j i a)) →
    ∃ (μ' : MP) (ν' : NC), l_X8_quote_56 w m μ ν x6 (3 + d + 1) (nI i) = some ((μ', ν'), gQL p g i a 0 35 - x6) ∧ RR μ' ν' (gQL p g i a) ∧ ν'.2 20 = ν.2 20 ∧ bal ν' (gQL p g i a) = bal ν a ∧ ∀ c y : Int, RC c y ν → RC c y ν' := by
  have eK20 : eK 5 (3 + d) = 20 := by rcases (show d = 0 ∨ d = 1 by omega) with rfl | rfl <;> rfl
  intro g
  induction g with
  | zero =>
    intro i m μ ν a hR hp h1 h2 h3
    obtain ⟨m, rfl⟩ : ∃ m', m = m' + 1 := ⟨m - 1, by omega⟩
    obtain rfl : i = K := by omega
    obtain ⟨k, w1, w2, w3, w4, w5⟩ := rl_of hR hd
    obtain ⟨ek, eP⟩ := rl_uniq hp w5
    have z4 := hR.1.2.2.2.2.1
    refine ⟨μ, ν, ?_, hR, rfl, rfl, fun _ _ h => h⟩
    unfold l_X8_quote_56 b_X8_quote_56
    rw [nzs, Nat.add_sub_cancel, ltt (show 3 + d < ν.2 4 by omega), w1, ek, if_pos (Int32.le_refl _), ltt hR.1.1, ltt (show 5 < ν.2 4 by omega), hR.2.2.2.2.2.2.2.2.1.1]
    rfl
  | succ g ih =>
    intro i m μ ν a hR hp h1 h2 h3
    obtain ⟨m, rfl⟩ : ∃ m', m = m' + 1 := ⟨m - 1, by omega⟩
    obtain ⟨k, w1, w2, w3, w4, w5⟩ := rl_of hR hd
    obtain ⟨ek, eP⟩ := rl_uniq hp w5
    have hi : i < K := by omega
    have ePi : μ.2 5 (3 + d) i = p i + 1 := eP i hi
    obtain ⟨o, p1, p2, p3, p4⟩ := hp.1 i hi
    have epo : p i = o := Nat.succ.inj p1
    rw [← epo] at p2 p3 p4
    have z4 := hR.1.2.2.2.2.1
    obtain ⟨o1, o2, o3, -⟩ := ordOf hR p2
    have c : ¬ nI k ≤ nI i := fun h => by have := (nI_leI (by omega) (by omega)).mp h; omega
    have hg : ls_get μ ν (3 + d) (nI i) = some (p i) := k_get hR.1 (by omega) w1 (by omega) w3 w4 (by omega) ePi (by rw [eK20]; exact o1)
    obtain ⟨r1, r2, n, c0, r3, r4, r5, r6⟩ := h3 0 (by omega)
    obtain ⟨E, e35, hE, -⟩ := exeK hR
    have r3' : a 4 1 = nI n := r3
    have r5' : a 20 0 = nI c0 := r5
    obtain ⟨μ1, ν1, e', s1, s2, s3, s4, s5, s6, s7, s8, s9⟩ := k_route (w := w) hR p2 hd p4 e35 hE r1 r2 hw r3' (by omega) (fun _ => ⟨c0, r5', r6⟩)
    have hb : bal ν1 (gRoutes a (p i)) = bal ν a := by
      have hEE : tn (a 0 35) = E := by rw [e35, tnI (by omega)]
      have hEe : tn (gRouteL (p i) 102 a 0 35) = e' := by
        have : gRoutes a (p i) 0 35 = gRouteL (p i) 102 a 0 35 := by
          unfold gRoutes
          split
          · rfl
          · unfold gRep
            rw [gSends_k _ _ _ _ _ _ _ _ _ (by decide) (by decide) (by decide) (by decide) (by decide)]
        rw [← this, s3, tnI (by omega)]
      unfold bal
      have h40 : ∀ i', gRouteL (p i) 102 a 4 i' = a 4 i' := fun i' => gRouteL_k _ _ _ _ _ (by decide) (by decide) (by decide) (by omega)
      unfold gRoutes
      rw [hEE, hEe, s6]
      by_cases c1 : e' ≤ E
      · rw [if_pos c1, if_pos (show e' = E by omega), h40, h40]; rfl
      · rw [if_neg c1, if_neg (show ¬ e' = E by omega)]
        unfold gRep
        rw [gSends_4 _ _ n _ _ _ _ _ ((h40 1).trans r3') (by omega), gSends_4o _ _ _ _ _ _ (by decide), h40, r3', tnI (by omega), tnI (by omega)]
        omega
    obtain ⟨μ', ν', t1, t2, t3, t4, t5⟩ := ih (i + 1) m μ1 ν1 (gRoutes a (p i)) s2 (rl_routes hp) (by omega) (by omega) (fun j hj => h3 (j + 1) (by omega))
    refine ⟨μ', ν', ?_, t2, t3.trans s7, t4.trans hb, fun c y h => t5 _ _ (s9 _ _ h)⟩
    unfold l_X8_quote_56 b_X8_quote_56
    rw [nzs, Nat.add_sub_cancel, ltt (show 3 + d < ν.2 4 by omega), w1, if_neg c, hg]
    simp only [cond_true, Option.bind_some]
    rw [eK20, eqs, ltt o1, ltt hR.1.1, s1]
    simp only [cond_true, Option.bind_some]
    unfold b_X8_quote_80
    simp only [yl]
    rw [q1, nI_add, t1]
    rfl
/-! the reference's side: the next in rank -/
theorem neg1 {j : Nat} (h : j < 2 ^ 31) : ¬ nI j = (-1 : Int32) := fun e => by
  have h1 : (-1 : Int32) < 0 := by decide
  rw [← e] at h1
  exact nIb _ h h1
theorem r_toR {w k d : Nat} {a : AS} (hk : k < 40) : f_X9_isToRoute w a (nI k) (nI d) = some (if a 24 (40 + k) ≠ nI 0 ∧ a 23 k = nI d ∧ ¬ lft a (40 + k) ≤ nI 0 then nI 1 else nI 0) := by
  unfold f_X9_isToRoute
  rw [q40, nI_add, ixn (show 40 + k < 80 by omega) (by decide), nI_clamp (show 40 + k < 2 ^ 31 by omega), ixn hk (by decide), nI_clamp (show k < 2 ^ 31 by omega), r_left (show 40 + k < 80 by omega)]
  simp only [cond_true, Option.bind_some]
  by_cases c1 : a 24 (40 + k) = nI 0
  · rw [if_pos (show a 24 (40 + k) = (0 : Int32) from c1), if_neg (fun h => h.1 c1)]; rfl
  · rw [if_neg (show ¬ a 24 (40 + k) = (0 : Int32) from c1)]
    by_cases c2 : a 23 k = nI d
    · rw [if_pos c2]
      by_cases c3 : lft a (40 + k) ≤ nI 0
      · rw [if_pos (show lft a (40 + k) ≤ (0 : Int32) from c3), if_neg (fun h => h.2.2 c3)]; rfl
      · rw [if_neg (show ¬ lft a (40 + k) ≤ (0 : Int32) from c3), if_pos ⟨c1, c2, c3⟩]; rfl
    · rw [if_neg c2, if_neg (fun h => c2 h.2.1)]; rfl
theorem r_ahead {w o o' d : Nat} {a : AS} (ho : o < 40) (ho' : o' < 40) (hd : d < 2) (h23 : a 23 o = nI d) : f_X9_isAhead w a (nI o) (nI o') = some (ypI (aheadR (a 23) (a 25) (a 31) o o')) := by
  have h61 : ∀ s0 : Int32, b_X9_isAhead_61 w a (nI o) s0 = some (if s0 = nI d then nI 1 else nI 0) := fun s0 => by
    unfold b_X9_isAhead_61
    rw [ixn ho (by decide), nI_clamp (by omega), h23]
    simp only [cond_true]
    by_cases c : s0 = nI d
    · rw [if_pos c, if_pos c]; rfl
    · rw [if_neg c, if_neg c]; rfl
  unfold f_X9_isAhead
  simp only [yl]
  rw [q40, nI_add, nI_add, ixn (show 40 + o < 80 by omega) (by decide), ixn (show 40 + o' < 80 by omega) (by decide), nI_clamp (show 40 + o < 2 ^ 31 by omega), nI_clamp (show 40 + o' < 2 ^ 31 by omega), ixn ho (by decide), ixn ho' (by decide), nI_clamp (show o < 2 ^ 31 by omega), nI_clamp (show o' < 2 ^ 31 by omega), h61, h61]
  simp only [cond_true]
  by_cases c : a 25 (40 + o) = a 25 (40 + o')
  · rw [if_pos c]
    by_cases c1 : a 31 o' ≤ a 31 o
    · rw [if_pos c1, ypI_f (fun h => h.elim (fun h => absurd h.2 (Int32.not_lt.mpr c1)) (fun h => h.1 c))]; rfl
    · rw [if_neg c1, ypI_t (show aheadR (a 23) (a 25) (a 31) o o' from Or.inl ⟨c, Int32.not_le.mp c1⟩)]; rfl
  · rw [if_neg c]
    by_cases c1 : a 25 (40 + o') ≤ a 25 (40 + o)
    · rw [if_pos c1]
      have hlt : a 25 (40 + o') < a 25 (40 + o) := by
        rcases Int32.lt_or_eq_of_le c1 with h | h
        · exact h
        · exact absurd h.symm c
      by_cases cd : d = 0
      · subst cd
        rw [if_pos (show (0 : Int32) = nI 0 from rfl), ypI_t (show aheadR (a 23) (a 25) (a 31) o o' from Or.inr ⟨c, Or.inl ⟨h23, hlt⟩⟩)]
      · obtain rfl : d = 1 := by omega
        rw [if_neg (show ¬ (0 : Int32) = nI 1 by decide), ypI_f]
        rintro (h | ⟨-, h | h⟩)
        · exact c h.1
        · rw [h23] at h; exact absurd h.1 (by decide)
        · exact absurd h.2 (Int32.not_lt.mpr c1)
    · rw [if_neg c1]
      by_cases cd : d = 0
      · subst cd
        rw [if_neg (show ¬ (1 : Int32) = nI 0 by decide), ypI_f]
        rintro (h | ⟨-, h | h⟩)
        · exact c h.1
        · exact absurd h.2 (Int32.not_lt.mpr (Int32.le_of_lt (Int32.not_le.mp c1)))
        · exact h.1 h23
      · obtain rfl : d = 1 := by omega
        rw [if_pos (show (1 : Int32) = nI 1 from rfl), ypI_t (show aheadR (a 23) (a 25) (a 31) o o' from Or.inr ⟨c, Or.inr ⟨by rw [h23]; decide, Int32.not_le.mp c1⟩⟩)]
/-- the first in the list from a place on that is to route -/
noncomputable def fstR (a : AS) (p : Nat → Nat) : Nat → Nat → Int32
  | 0, _ => -1
  | g + 1, i => if lft a (40 + p i) ≤ nI 0 then fstR a p g (i + 1) else nI (p i)
def sc (a : AS) (p : Nat → Nat) (K i0 : Nat) (x : Int32) (k : Nat) : Prop := (x = -1 ∧ ∀ j, i0 ≤ j → j < K → ¬ lft a (40 + p j) ≤ nI 0 → k ≤ p j) ∨ ∃ m, i0 ≤ m ∧ m < K ∧ x = nI (p m) ∧ ¬ lft a (40 + p m) ≤ nI 0 ∧ p m < k ∧ ∀ j, i0 ≤ j → j < m → ¬ lft a (40 + p j) ≤ nI 0 → k ≤ p j
theorem sc_fst {a : AS} {p : Nat → Nat} {K n : Nat} {x : Int32} (hn : ∀ j, j < K → p j < n) : ∀ (g i0 : Nat), i0 + g = K → sc a p K i0 x n → x = fstR a p g i0 := by
  intro g
  induction g with
  | zero =>
    intro i0 h1 h2
    rcases h2 with ⟨h, -⟩ | ⟨m, m1, m2, -⟩
    · exact h
    · omega
  | succ g ih =>
    intro i0 h1 h2
    unfold fstR
    by_cases c : lft a (40 + p i0) ≤ nI 0
    · rw [if_pos c]
      refine ih (i0 + 1) (by omega) ?_
      rcases h2 with ⟨h, h3⟩ | ⟨m, m1, m2, m3, m4, m5, m6⟩
      · exact Or.inl ⟨h, fun j hj => h3 j (by omega)⟩
      · refine Or.inr ⟨m, ?_, m2, m3, m4, m5, fun j hj => m6 j (by omega)⟩
        rcases Nat.lt_or_ge i0 m with c' | c'
        · omega
        · exact absurd c (by rw [show i0 = m by omega]; exact m4)
    · rw [if_neg c]
      rcases h2 with ⟨h, h3⟩ | ⟨m, m1, m2, m3, m4, m5, m6⟩
      · have := h3 i0 (Nat.le_refl _) (by omega) c
        have := hn i0 (by omega)
        omega
      · rcases Nat.lt_or_ge i0 m with c' | c'
        · have := m6 i0 (Nat.le_refl _) c' c
          have := hn i0 (by omega)
          omega
        · rw [m3, show m = i0 by omega]
theorem r_nextL {w d K n i0 : Nat} {a : AS} {p : Nat → Nat} {last : Int32} (hd : d < 2) (hp : rl a (fun i => p i + 1) K d) (e22 : a 0 22 = nI n) (hn : n ≤ 40)
    (hl : (last = -1 ∧ i0 = 0) ∨ ∃ l, l < i0 ∧ l < K ∧ last = nI (p l) ∧ ∀ j, l < j → j < i0 → lft a (40 + p j) ≤ nI 0) : ∀ (g k m : Nat) (x : Int32), k + g = n → g < m → sc a p K i0 x k → ∃ y, l_X9_nextInRank_5 w a m last (nI d) x (nI k) = some y ∧ sc a p K i0 y n := by
  have en : tn (a 0 22) = n := by rw [e22, tnI (by omega)]
  have hpl : ∀ j, j < K → p j < n ∧ a 24 (40 + p j) ≠ nI 0 ∧ a 23 (p j) = nI d := fun j hj => by
    obtain ⟨o, p1, p2, p3, p4⟩ := hp.1 j hj
    have : p j = o := Nat.succ.inj p1
    rw [this, ← en]
    exact ⟨p2, p3, p4⟩
  have hal : ∀ i j, i < K → j < K → (aheadR (a 23) (a 25) (a 31) (p i) (p j) ↔ i < j) := fun i j hi hj => by
    have := rl_lt hp hi hj
    simpa using this
  intro g
  induction g with
  | zero =>
    intro k m x h1 h2 h3
    obtain ⟨m, rfl⟩ : ∃ m', m = m' + 1 := ⟨m - 1, by omega⟩
    obtain rfl : k = n := by omega
    refine ⟨x, ?_, h3⟩
    unfold l_X9_nextInRank_5 b_X9_nextInRank_5
    rw [e22, if_pos (Int32.le_refl _)]
  | succ g ih =>
    intro k m x h1 h2 h3
    obtain ⟨m, rfl⟩ : ∃ m', m = m' + 1 := ⟨m - 1, by omega⟩
    have c : ¬ nI n ≤ nI k := fun h => by have := (nI_leI (by omega) (by omega)).mp h; omega
    have h72 : ∀ y, sc a p K i0 y (k + 1) → ∃ z, b_X9_nextInRank_72 (l_X9_nextInRank_5 w a m) w a last (nI d) (nI k) y = some z ∧ sc a p K i0 z n := fun y hy => by
      unfold b_X9_nextInRank_72
      simp only [yl]
      rw [q1, nI_add]
      exact ih (k + 1) m y (by omega) (by omega) hy
    -- k is no candidate: the best stays
    have hno : (∀ j, i0 ≤ j → j < K → ¬ lft a (40 + p j) ≤ nI 0 → p j ≠ k) → sc a p K i0 x (k + 1) := fun hn' => by
      rcases h3 with ⟨h, h4⟩ | ⟨q, m1, m2, m3, m4, m5, m6⟩
      · exact Or.inl ⟨h, fun j j1 j2 j3 => by have := h4 j j1 j2 j3; have := hn' j j1 j2 j3; omega⟩
      · exact Or.inr ⟨q, m1, m2, m3, m4, by omega, fun j j1 j2 j3 => by have := m6 j j1 j2 j3; have := hn' j j1 (by omega) j3; omega⟩
    have h43 : (∀ j, i0 ≤ j → j < K → ¬ lft a (40 + p j) ≤ nI 0 → p j ≠ k) → ∃ z, b_X9_nextInRank_43 (l_X9_nextInRank_5 w a m) w a last (nI d) x (nI k) = some z ∧ sc a p K i0 z n := fun hn' => by
      unfold b_X9_nextInRank_43 b_X9_nextInRank_44
      rw [if_pos rfl]
      unfold b_X9_nextInRank_71
      exact h72 x (hno hn')
    have h39 : ∀ i, i0 ≤ i → i < K → p i = k → ¬ lft a (40 + p i) ≤ nI 0 → ∃ z, b_X9_nextInRank_39 (l_X9_nextInRank_5 w a m) w a last (nI d) x (nI k) = some z ∧ sc a p K i0 z n := fun i i1 i2 i3 i4 => by
      have hnew : (∀ j, i0 ≤ j → j < i → ¬ lft a (40 + p j) ≤ nI 0 → k + 1 ≤ p j) → sc a p K i0 (nI k) (k + 1) := fun hh => Or.inr ⟨i, i1, i2, by rw [i3], i4, by omega, hh⟩
      unfold b_X9_nextInRank_39 b_X9_nextInRank_44
      rw [if_neg (show ¬ (1 : Int32) = 0 by decide)]
      unfold b_X9_nextInRank_66 b_X9_nextInRank_71
      rcases h3 with ⟨h, h4⟩ | ⟨q, m1, m2, m3, m4, m5, m6⟩
      · rw [if_pos h]
        refine h72 _ (hnew fun j j1 j2 j3 => ?_)
        have := h4 j j1 (by omega) j3
        have hne : p j ≠ k := fun e => by
          have := rl_inj hp (show j < K by omega) i2 (by show p j + 1 = p i + 1; omega)
          omega
        omega
      · have hq := hpl q m2
        rw [m3, if_neg (neg1 (by omega)), r_ahead (show k < 40 by omega) (show p q < 40 by omega) hd (by rw [← i3]; exact (hpl i i2).2.2)]
        simp only [Option.bind_some]
        have hiq := hal i q i2 m2
        rw [i3] at hiq
        by_cases c1 : i < q
        · rw [ypI_t (hiq.mpr c1), if_neg n10]
          refine h72 _ (hnew fun j j1 j2 j3 => ?_)
          have := m6 j j1 (by omega) j3
          have hne : p j ≠ k := fun e => by
            have := rl_inj hp (show j < K by omega) i2 (by show p j + 1 = p i + 1; omega)
            omega
          omega
        · rw [ypI_f (fun h => c1 (hiq.mp h)), if_pos (show nI 0 = (0 : Int32) from rfl)]
          refine h72 _ (Or.inr ⟨q, m1, m2, rfl, m4, by omega, fun j j1 j2 j3 => ?_⟩)
          have := m6 j j1 j2 j3
          have hne : p j ≠ k := fun e => by
            have := rl_inj hp (show j < K by omega) i2 (by show p j + 1 = p i + 1; omega)
            omega
          omega
    unfold l_X9_nextInRank_5 b_X9_nextInRank_5
    rw [e22, if_neg c, r_toR (show k < 40 by omega)]
    simp only [Option.bind_some]
    by_cases ct : a 24 (40 + k) ≠ nI 0 ∧ a 23 k = nI d ∧ ¬ lft a (40 + k) ≤ nI 0
    · rw [if_pos ct, if_neg n10]
      obtain ⟨i, i1, i2⟩ := hp.2.1 k (by omega) ct.1 ct.2.1
      have i3 : p i = k := Nat.succ.inj i2
      rcases hl with ⟨l1, l2⟩ | ⟨l, l1, l2, l3, l4⟩
      · rw [if_pos l1]
        exact h39 i (by omega) i1 i3 (by rw [i3]; exact ct.2.2)
      · have hq := hpl l l2
        rw [l3, if_neg (neg1 (by omega)), r_ahead (show p l < 40 by omega) (show k < 40 by omega) hd hq.2.2]
        simp only [Option.bind_some]
        have hli := hal l i l2 i1
        rw [i3] at hli
        rw [l3] at h39 h43
        by_cases c1 : l < i
        · rw [ypI_t (hli.mpr c1), if_neg n10]
          refine h39 i ?_ i1 i3 (by rw [i3]; exact ct.2.2)
          rcases Nat.lt_or_ge i i0 with c2 | c2
          · have := l4 i c1 c2
            rw [i3] at this
            exact absurd this ct.2.2
          · exact c2
        · rw [ypI_f (fun h => c1 (hli.mp h)), if_pos (show nI 0 = (0 : Int32) from rfl)]
          refine h43 (fun j j1 j2 j3 e => ?_)
          have := rl_inj hp j2 i1 (by show p j + 1 = p i + 1; omega)
          omega
    · rw [if_neg ct, if_pos (show nI 0 = (0 : Int32) from rfl)]
      refine h43 (fun j j1 j2 j3 e => ct ?_)
      have := hpl j j2
      rw [e] at this j3
      exact ⟨this.2.1, this.2.2, j3⟩
theorem r_next {w d K n i0 : Nat} {a : AS} {p : Nat → Nat} {last : Int32} (hd : d < 2) (hp : rl a (fun i => p i + 1) K d) (e22 : a 0 22 = nI n) (hn : n ≤ 40) (hi : i0 ≤ K) (hw : 41 < w)
    (hl : (last = -1 ∧ i0 = 0) ∨ ∃ l, l < i0 ∧ l < K ∧ last = nI (p l) ∧ ∀ j, l < j → j < i0 → lft a (40 + p j) ≤ nI 0) : f_X9_nextInRank w a last (nI d) = some (fstR a p (K - i0) i0) := by
  have en : tn (a 0 22) = n := by rw [e22, tnI (by omega)]
  obtain ⟨y, y1, y2⟩ := r_nextL (w := w) hd hp e22 hn hl n 0 w (-1) (by omega) (by omega) (Or.inl ⟨rfl, fun j _ _ _ => Nat.zero_le _⟩)
  have := sc_fst (x := y) (fun j hj => by
    obtain ⟨o, p1, p2, p3, p4⟩ := hp.1 j hj
    have : p j = o := Nat.succ.inj p1
    rw [this, ← en]
    exact p2) (K - i0) i0 (by omega) y2
  unfold f_X9_nextInRank
  rw [← this]
  exact y1
theorem r_quoL {w d K n : Nat} {p : Nat → Nat} {x5 : Int32} (hd : d < 2) (hn : n ≤ 40) (hw : 200 < w) : ∀ (g i m : Nat) (a : AS), rl a (fun i => p i + 1) K d → a 0 22 = nI n → i + g = K → g < m → (∀ j, j < g → ∃ e n' k', gQL p j i a 0 35 = nI e ∧ e ≤ 100 ∧ rgo (gQL p j i a) 1 n' k' ∧ n' + 1 ≤ 8191 ∧ k' ≤ 131072) →
    l_X9_quote_104 w m a (nI d) x5 (fstR a p g i) = some (gQL p g i a, gQL p g i a 0 35 - x5) := by
  intro g
  induction g with
  | zero =>
    intro i m a hp e22 h1 h2 h3
    obtain ⟨m, rfl⟩ : ∃ m', m = m' + 1 := ⟨m - 1, by omega⟩
    unfold l_X9_quote_104 b_X9_quote_104 fstR
    rw [if_pos rfl]
    rfl
  | succ g ih =>
    intro i m a hp e22 h1 h2 h3
    obtain ⟨o, p1, p2, p3, p4⟩ := hp.1 i (by omega)
    have epo : p i = o := Nat.succ.inj p1
    have en : tn (a 0 22) = n := by rw [e22, tnI (by omega)]
    rw [← epo] at p2 p3 p4
    by_cases c : lft a (40 + p i) ≤ nI 0
    · have e1 : fstR a p (g + 1) i = fstR a p g (i + 1) := if_pos c
      have e2 : gQL p (g + 1) i a = gQL p g (i + 1) a := by
        show gQL p g (i + 1) (gRoutes a (p i)) = _
        rw [gRoutes_id c]
      rw [e1, e2]
      refine ih (i + 1) m a hp e22 (by omega) (by omega) (fun j hj => ?_)
      have := h3 (j + 1) (by omega)
      rw [show gQL p (j + 1) i a = gQL p j (i + 1) a by show gQL p j (i + 1) (gRoutes a (p i)) = _; rw [gRoutes_id c]] at this
      exact this
    · obtain ⟨m, rfl⟩ : ∃ m', m = m' + 1 := ⟨m - 1, by omega⟩
      have e1 : fstR a p (g + 1) i = nI (p i) := if_neg c
      obtain ⟨e, n', k', r1, r2, r3, r4, r5⟩ := h3 0 (by omega)
      have hr := r_routes (w := w) (a := a) (o := p i) (d := d) (show p i < 40 by omega) hd p4 r1 r2 r3 r4 r5 hw
      have e22' : gRoutes a (p i) 0 22 = nI n := (gRoutes_q _ _ _ _ (by omega)).trans e22
      have hnx := r_next (w := w) (i0 := i + 1) (last := nI (p i)) hd (rl_routes (o := p i) hp) e22' hn (by omega) (by omega) (Or.inr ⟨i, by omega, by omega, rfl, fun j j1 j2 => by omega⟩)
      rw [show K - (i + 1) = g by omega] at hnx
      rw [e1]
      unfold l_X9_quote_104 b_X9_quote_104
      rw [if_neg (neg1 (by omega)), hr]
      simp only [Option.bind_some]
      rw [hnx]
      simp only [Option.bind_some]
      exact ih (i + 1) m (gRoutes a (p i)) (rl_routes hp) e22' (by omega) (by omega) (fun j hj => h3 (j + 1) (by omega))
/-- a quote is told -/
def gQuo0 (a : AS) (v d : Nat) (x y : Int32) : AS := up2 (up2 (up2 a 0 0 (nI 0)) 33 (2 * v + d) x) 34 (2 * v + d) y
theorem RR_quo {μ : MP} {ν : NC} {a : AS} {v d : Nat} {x y : Int32} (hR : RR μ ν a) (hv : v < 3) (hd : d < 2) : RR (uM (uM μ 25 (3 * d + v) 1 x) 25 (3 * d + v) 2 y) ν (gQuo0 a v d x y) := by
  obtain ⟨h0, hF, h1, h2, h3, h4, h5, h6, h7, h8, h9⟩ := hR
  refine ⟨h0, hF, h1, h2, h3, h4, h5, h6, h7, fun d' hd' => ?_, h9⟩
  obtain ⟨g1, g2⟩ := h8 d' hd'
  refine ⟨g1, fun v' hv' => ?_⟩
  obtain ⟨p1, p2, p3, p4⟩ := g2 v' hv'
  refine ⟨p1, ?_⟩
  unfold gQuo0
  by_cases c : d' = d ∧ v' = v
  · obtain ⟨rfl, rfl⟩ := c
    rw [uM_s, uM_s, up1_n _ _ (by decide), up1_n _ _ (by decide), up1_n _ _ (by decide), up1_s, up1_s, up2_n _ _ (by omega), up2_s, up2_s]
    exact ⟨p2, rfl, rfl⟩
  · have c' : 3 * d' + v' ≠ 3 * d + v := by omega
    have c2 : 2 * v' + d' ≠ 2 * v + d := by omega
    rw [uM_n _ _ _ (by omega), uM_n _ _ _ (by omega), up2_n _ _ (by omega), up2_n _ _ (by omega), up2_n _ _ (by omega), up2_n _ _ (by omega), up2_n _ _ (by omega)]
    exact ⟨p2, p3, p4⟩
def gQuote (a : AS) (v d : Nat) (x y : Int32) (p : Nat → Nat) (K : Nat) : AS := gQL p K 0 (gQuo0 a v d x y)
theorem k_quote {w v d K : Nat} {μ : MP} {ν : NC} {a : AS} {x y : Int32} {p : Nat → Nat} (hR : RR μ ν a) (hv : v < 3) (hd : d < 2) (hx : ¬ rgX x 1 100) (hy : ¬ rgX y 0 200) (hp : rl a (fun i => p i + 1) K d) (hok : ∀ j, j < K → rtOk (gQL p j 0 (gQuo0 a v d x y))) (hw : 200 < w) :
    ∃ (μ' : MP) (ν' : NC), f_X8_quote w μ ν (nI v) (nI d) x y = some (0, ((μ', ν'), gQuote a v d x y p K 0 35 - a 0 35)) ∧ RR μ' ν' (gQuote a v d x y p K) ∧ ν'.2 20 = ν.2 20 ∧ bal ν' (gQuote a v d x y p K) = bal ν a ∧ ∀ c y : Int, RC c y ν → RC c y ν' := by
  have hR1 := RR_quo (x := x) (y := y) hR hv hd
  have hp1 : rl (gQuo0 a v d x y) (fun i => p i + 1) K d := rl_eq hp rfl rfl rfl rfl rfl
  obtain ⟨k, w1, w2, w3, w4, w5⟩ := rl_of hR1 hd
  obtain ⟨ek, -⟩ := rl_uniq hp1 w5
  obtain ⟨μ', ν', t1, t2, t3, t4, t5⟩ := k_quoL (w := w) (x6 := a 0 35) hd hw K 0 w _ _ _ hR1 hp1 (by omega) (by omega) hok
  have z25 := hR.1.2.2.2.2.2.2.2.2.2.2.2.1
  have z4 := hR.1.2.2.2.2.1
  have hby : f_X8_byRank w (uM (uM μ 25 (3 * d + v) 1 x) 25 (3 * d + v) 2 y) ν (nI d) = some (3 + d + 1) := by
    unfold f_X8_byRank
    rw [ltt hR.1.1]
    rcases (show d = 0 ∨ d = 1 by omega) with rfl | rfl <;> rfl
  refine ⟨μ', ν', ?_, t2, t3, t4, t5⟩
  unfold f_X8_quote
  rw [ltt hR.1.1, k_reqQ hR hv hd]
  simp only [cond_true, Option.bind_some]
  rw [eqs, k_range, if_neg hx]
  simp only [cond_true, Option.bind_some]
  rw [eqs, k_range, if_neg hy]
  simp only [cond_true, Option.bind_some]
  rw [eqs]
  simp only [cond_true]
  unfold b_X8_quote_24
  rw [nzs, Nat.add_sub_cancel, ltt (show 3 * d + v < ν.2 25 by omega)]
  simp only [cond_true, yl]
  rw [ltt hR.1.1, ltt (show 5 < ν.2 4 by omega), hby, hR1.2.2.2.2.2.2.2.2.1.1]
  simp only [cond_true, Option.bind_some]
  rw [show gQuo0 a v d x y 0 35 = a 0 35 from rfl, show (0 : Int32) = nI 0 from rfl, t1]
  rfl
def quWhy (x y : Int32) : Nat := if rgX x 1 100 then 2 else if rgX y 0 200 then 2 else 0
theorem k_quoteX {w v d : Nat} {μ : MP} {ν : NC} {a : AS} {x y : Int32} (hR : RR μ ν a) (hv : v < 3) (hd : d < 2) (h : quWhy x y ≠ 0) : f_X8_quote w μ ν (nI v) (nI d) x y = some (2, ((μ, ν), 0)) := by
  unfold quWhy at h
  unfold f_X8_quote
  rw [ltt hR.1.1, k_reqQ hR hv hd]
  simp only [cond_true, Option.bind_some]
  rw [eqs, k_range, k_range]
  simp only [cond_true, Option.bind_some]
  by_cases c : rgX x 1 100
  · rw [if_pos c]; rfl
  · rw [if_neg c] at h ⊢
    by_cases c1 : rgX y 0 200
    · rw [eqs, if_pos c1]; rfl
    · rw [if_neg c1] at h; exact absurd rfl h
theorem k_quoteY {w d : Nat} {μ : MP} {ν : NC} {a : AS} {z x y : Int32} (hR : RR μ ν a) (h : z < 0 ∨ nI 3 ≤ z) (hd : d < 2) : f_X8_quote w μ ν z (nI d) x y = some (1, ((μ, ν), 0)) := by
  unfold f_X8_quote
  rw [ltt hR.1.1, k_reqQX hR h hd]
  rfl
theorem r_quo39X {w : Nat} {a : AS} {z x y t dd : Int32} (ht : ¬ t ≤ 0) : b_X9_quote_39 w a z dd x y t = some (up2 a 0 0 t, 0) := by
  unfold b_X9_quote_39
  simp only [yl]
  rw [up2_s, if_neg ht]
theorem r_quoteX {w v d : Nat} {a : AS} {x y : Int32} (hv : v < 3) (h : quWhy x y ≠ 0) : f_X9_quote w a (nI v) (nI d) x y = some (up2 a 0 0 (nI 2), 0) := by
  unfold quWhy at h
  unfold f_X9_quote
  rw [r_isVen hv]
  simp only [Option.bind_some]
  rw [if_neg n10, r_in, r_in]
  simp only [Option.bind_some]
  have h38 : b_X9_quote_38 w a (nI v) (nI d) x y = some (up2 a 0 0 (nI 2), 0) := r_quo39X (by decide)
  by_cases c : rgX x 1 100
  · rw [if_pos (show x < 1 ∨ 100 < x from c), if_pos (show nI 0 = (0 : Int32) from rfl), h38]
  · rw [if_neg c] at h
    rw [if_neg (show ¬ (x < 1 ∨ 100 < x) from c), if_neg n10]
    by_cases c1 : rgX y 0 200
    · rw [if_pos (show y < 0 ∨ 200 < y from c1), if_pos (show nI 0 = (0 : Int32) from rfl), h38]
    · rw [if_neg c1] at h; exact absurd rfl h
theorem r_quoteY {w d : Nat} {a : AS} {z x y : Int32} (h : z < 0 ∨ nI 3 ≤ z) : f_X9_quote w a z (nI d) x y = some (up2 a 0 0 (nI 1), 0) := by
  unfold f_X9_quote
  rw [r_isVenX h]
  simp only [Option.bind_some]
  rw [if_pos (show nI 0 = (0 : Int32) from rfl)]
  exact r_quo39X (by decide)
theorem r_quote {w v d K n : Nat} {a : AS} {x y : Int32} {p : Nat → Nat} (hv : v < 3) (hd : d < 2) (hx : ¬ rgX x 1 100) (hy : ¬ rgX y 0 200) (hp : rl a (fun i => p i + 1) K d) (e22 : a 0 22 = nI n) (hn : n ≤ 40) (hK : K ≤ 40) (hok : ∀ j, j < K → ∃ e n' k', gQL p j 0 (gQuo0 a v d x y) 0 35 = nI e ∧ e ≤ 100 ∧ rgo (gQL p j 0 (gQuo0 a v d x y)) 1 n' k' ∧ n' + 1 ≤ 8191 ∧ k' ≤ 131072) (hw : 200 < w) :
    f_X9_quote w a (nI v) (nI d) x y = some (gQuote a v d x y p K, gQuote a v d x y p K 0 35 - a 0 35) := by
  have hp1 : rl (gQuo0 a v d x y) (fun i => p i + 1) K d := rl_eq hp rfl rfl rfl rfl rfl
  have hl := r_quoL (w := w) (x5 := a 0 35) hd hn hw K 0 w (gQuo0 a v d x y) hp1 e22 (by omega) (by omega) hok
  have hnx := r_next (w := w) (a := gQuo0 a v d x y) (i0 := 0) (last := -1) hd hp1 e22 hn (by omega) (by omega) (Or.inl ⟨rfl, rfl⟩)
  rw [Nat.sub_zero] at hnx
  have h86 : ∀ D : Nat, D = d → b_X9_quote_86 w (up2 (up2 a 0 0 (nI 0)) 33 (2 * v + d) x) (nI d) y (nI D) (nI 2 * nI v) = some (gQuote a v d x y p K, gQuote a v d x y p K 0 35 - a 0 35) := fun D hD => by
    subst hD
    unfold b_X9_quote_86
    simp only [yl]
    rw [pk_mul, nI_add, ixn (show 2 * v + D < 6 by omega) (by decide), nI_clamp (by omega)]
    simp only [cond_true]
    rw [show up2 (up2 (up2 a 0 0 (nI 0)) 33 (2 * v + D) x) 34 (2 * v + D) y = gQuo0 a v D x y from rfl, hnx]
    simp only [Option.bind_some]
    exact hl
  have h67 : ∀ D : Nat, D = d → b_X9_quote_67 w (up2 a 0 0 (nI 0)) (nI v) (nI d) x y (nI D) (nI 2 * nI v) = some (gQuote a v d x y p K, gQuote a v d x y p K 0 35 - a 0 35) := fun D hD => by
    unfold b_X9_quote_67
    simp only [yl]
    rw [pk_mul, nI_add, ixn (show 2 * v + D < 6 by omega) (by decide), nI_clamp (show 2 * v + D < 2 ^ 31 by omega)]
    simp only [cond_true]
    have h2 := h86 D hD
    rw [pk_mul] at h2
    subst hD
    rcases (show D = 0 ∨ D = 1 by omega) with rfl | rfl
    · rw [if_pos (show nI 0 = (0 : Int32) from rfl), show ((2 : Int32) * nI v) = nI (2 * v) from pk_mul 2 v]; exact h2
    · rw [if_neg n10, show ((2 : Int32) * nI v) = nI (2 * v) from pk_mul 2 v]; exact h2
  unfold f_X9_quote
  rw [r_isVen hv]
  simp only [Option.bind_some]
  rw [if_neg n10, r_in, if_neg (show ¬ (x < 1 ∨ 100 < x) from hx)]
  simp only [Option.bind_some]
  rw [if_neg n10, r_in, if_neg (show ¬ (y < 0 ∨ 200 < y) from hy)]
  simp only [Option.bind_some]
  rw [if_neg n10]
  unfold b_X9_quote_39
  simp only [yl]
  rw [up2_s, if_pos (show (0 : Int32) ≤ 0 by decide)]
  rcases (show d = 0 ∨ d = 1 by omega) with rfl | rfl
  · rw [if_pos (show nI 0 = (0 : Int32) from rfl)]; exact h67 0 rfl
  · rw [if_neg n10]; exact h67 1 rfl
theorem o_quote {w : Nat} {μ : MP} {ν : NC} {a : AS} {x1 x2 x3 x4 : Int32} (hR : RR μ ν a) (hw : 200 < w) (hok : ∀ v d K p, v < 3 → d < 2 → K ≤ 40 → ¬ rgX x3 1 100 → ¬ rgX x4 0 200 → x1 = nI v → nz x2 = nI d → rl a (fun i => p i + 1) K d → ∀ j, j < K → rtOk (gQL p j 0 (gQuo0 a v d x3 x4))) :
    oq ν a (s_quote w μ ν a x1 x2 x3 x4) ∨ ∃ (v d K : Nat) (p : Nat → Nat) (μ' : MP) (ν' : NC), v < 3 ∧ d < 2 ∧ K ≤ 40 ∧ ¬ rgX x3 1 100 ∧ ¬ rgX x4 0 200 ∧ x1 = nI v ∧ nz x2 = nI d ∧ rl a (fun i => p i + 1) K d ∧ s_quote w μ ν a x1 x2 x3 x4 = some ((μ', ν'), gQuote a v d x3 x4 p K) ∧ RR μ' ν' (gQuote a v d x3 x4 p K) ∧ ν'.2 20 = ν.2 20 ∧ bal ν' (gQuote a v d x3 x4 p K) = bal ν a ∧ ∀ c y : Int, RC c y ν → RC c y ν' := by
  obtain ⟨d, hd, ed⟩ := nzD x2
  unfold s_quote
  rw [ed]
  rcases venD x1 with ⟨v, hv, rfl⟩ | h
  · by_cases hq : quWhy x3 x4 = 0
    · refine Or.inr ?_
      unfold quWhy at hq
      have hx : ¬ rgX x3 1 100 := fun c => by rw [if_pos c] at hq; exact absurd hq (by decide)
      have hy : ¬ rgX x4 0 200 := fun c => by rw [if_neg hx, if_pos c] at hq; exact absurd hq (by decide)
      obtain ⟨k, w1, w2, w3, w4, w5⟩ := rl_of hR hd
      have hp : rl a (fun i => (μ.2 5 (3 + d) i - 1) + 1) k d := by
        refine ⟨fun i hi => ?_, fun o o1 o2 o3 => ?_, fun i j hij hj => ?_⟩
        · obtain ⟨o, p1, p2⟩ := w5.1 i hi
          exact ⟨o, by show μ.2 5 (3 + d) i - 1 + 1 = o + 1; omega, p2⟩
        · obtain ⟨i, i1, i2⟩ := w5.2.1 o o1 o2 o3
          exact ⟨i, i1, by show μ.2 5 (3 + d) i - 1 + 1 = o + 1; omega⟩
        · exact w5.2.2 i j hij hj
      have hok1 := hok v d k (fun i => μ.2 5 (3 + d) i - 1) hv hd w2 hx hy rfl ed hp
      obtain ⟨μ', ν', t1, t2, t3, t4, t5⟩ := k_quote (w := w) (x := x3) (y := x4) hR hv hd hx hy hp hok1 hw
      obtain ⟨n, e22, hn, -⟩ := ordK hR
      have hst : ∀ j, j ≤ k → ∃ (μ2 : MP) (ν2 : NC), RR μ2 ν2 (gQL (fun i => μ.2 5 (3 + d) i - 1) j 0 (gQuo0 a v d x3 x4)) := by
        have hgen : ∀ (g i : Nat) (μ2 : MP) (ν2 : NC) (b : AS), RR μ2 ν2 b → rl b (fun i => (μ.2 5 (3 + d) i - 1) + 1) k d → i + g ≤ k → (∀ j, j < g → rtOk (gQL (fun i => μ.2 5 (3 + d) i - 1) j i b)) → ∃ (μ3 : MP) (ν3 : NC), RR μ3 ν3 (gQL (fun i => μ.2 5 (3 + d) i - 1) g i b) := by
          intro g
          induction g with
          | zero => exact fun i μ2 ν2 b hb _ _ _ => ⟨μ2, ν2, hb⟩
          | succ g ih =>
            intro i μ2 ν2 b hb hpb hg hj
            obtain ⟨r1, r2, n, c0, r3, r4, r5, r6⟩ := hj 0 (by omega)
            obtain ⟨E, e35, hE, -⟩ := exeK hb
            obtain ⟨o, p1, p2, p3, p4⟩ := hpb.1 i (by omega)
            have epo : μ.2 5 (3 + d) i - 1 = o := Nat.succ.inj p1
            obtain ⟨μ1, ν1, e', s1, s2, -⟩ := k_route (w := w) hb p2 hd p4 e35 hE r1 r2 hw (show b 4 1 = nI n from r3) (by omega) (fun _ => ⟨c0, r5, r6⟩)
            have : gQL (fun i => μ.2 5 (3 + d) i - 1) (g + 1) i b = gQL (fun i => μ.2 5 (3 + d) i - 1) g (i + 1) (gRoutes b o) := by
              rw [← epo]; rfl
            rw [this]
            refine ih (i + 1) μ1 ν1 _ s2 (rl_routes hpb) (by omega) (fun j hj' => ?_)
            have h2 := hj (j + 1) (by omega)
            have e3 : gQL (fun i => μ.2 5 (3 + d) i - 1) (j + 1) i b = gQL (fun i => μ.2 5 (3 + d) i - 1) j (i + 1) (gRoutes b o) := by
              rw [← epo]; rfl
            rw [e3] at h2
            exact h2
        intro j hj
        exact hgen j 0 _ _ _ (RR_quo (x := x3) (y := x4) hR hv hd) (rl_eq hp rfl rfl rfl rfl rfl) (by omega) (fun j' hj' => hok1 j' (by omega))
      have hr := r_quote (w := w) (x := x3) (y := x4) hv hd hx hy hp e22 hn w2 (fun j hj => by
        obtain ⟨μ2, ν2, h2⟩ := hst j (by omega)
        obtain ⟨E, e35, hE, -⟩ := exeK h2
        obtain ⟨-, -, n', c0, r3, r4, r5, r6⟩ := hok1 j hj
        obtain ⟨hh, cc, H, x1', x2', x3', x4', x5', -⟩ := h2.2.2.2.2.2.1 0 (by decide)
        exact ⟨E, n', c0, e35, hE, ⟨r3, ⟨H, x3', x5'⟩, r5⟩, by omega, by omega⟩) hw
      have h00 : gQuote a v d x3 x4 (fun i => μ.2 5 (3 + d) i - 1) k 0 0 = nI 0 := by
        have hg : ∀ (g i : Nat) (b : AS), gQL (fun i => μ.2 5 (3 + d) i - 1) g i b 0 0 = b 0 0 := by
          intro g
          induction g with
          | zero => exact fun i b => rfl
          | succ g ih => exact fun i b => (ih (i + 1) _).trans (gRoutes_q _ _ _ _ (by omega))
        exact hg k 0 _
      refine ⟨v, d, k, _, (up3 μ'.1 90 0 0 (gQuote a v d x3 x4 (fun i => μ.2 5 (3 + d) i - 1) k 0 35 - a 0 35), μ'.2), ν', hv, hd, w2, hx, hy, rfl, rfl, hp, ?_, RR_90 t2, t3, t4, t5⟩
      rw [t1, hr]
      simp only [Option.bind_some]
      rw [r_thrown, h00]
      exact lwq_ok
    · refine Or.inl ?_
      rw [k_quoteX hR hv hd hq, r_quoteX hv hq]
      simp only [Option.bind_some]
      simp only [eq10, cond_false, Option.bind_some, r_thrown, up2_s]
      refine oq_x hR ?_ ?_ <;> decide
  · refine Or.inl ?_
    rw [k_quoteY hR h hd, r_quoteY h]
    simp only [Option.bind_some]
    simp only [eq10, cond_false, Option.bind_some, r_thrown, up2_s]
    refine oq_x hR ?_ ?_ <;> decide
