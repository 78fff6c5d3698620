/-! What is held is taken in its turn. -/
variable {Hh Hg : Nat → Nat}
theorem lr_g18 {b a a' : AS} (h : LR Hg b a) (hk : ∀ k, k ≠ 6 → k ≠ 18 → a' k = a k) (h18 : ∀ s n : Nat, s < 2 → n < 8192 → Hg s ≤ n → a' 18 (8192 * s + n) = a 18 (8192 * s + n)) : LR Hg b a' := by
  obtain ⟨l0, l1, l2, l3, l4, l5, l6, l7, l8⟩ := h
  unfold LR
  rw [hk 0 (by decide) (by decide), hk 3 (by decide) (by decide), hk 4 (by decide) (by decide), hk 5 (by decide) (by decide), hk 7 (by decide) (by decide), hk 8 (by decide) (by decide), hk 9 (by decide) (by decide), hk 10 (by decide) (by decide), hk 20 (by decide) (by decide), hk 19 (by decide) (by decide), hk 21 (by decide) (by decide), hk 11 (by decide) (by decide), hk 12 (by decide) (by decide), hk 13 (by decide) (by decide), hk 14 (by decide) (by decide), hk 15 (by decide) (by decide), hk 16 (by decide) (by decide), hk 17 (by decide) (by decide), hk 25 (by decide) (by decide), hk 26 (by decide) (by decide), hk 27 (by decide) (by decide), hk 28 (by decide) (by decide), hk 23 (by decide) (by decide), hk 24 (by decide) (by decide), hk 29 (by decide) (by decide), hk 30 (by decide) (by decide), hk 31 (by decide) (by decide), hk 36 (by decide) (by decide), hk 37 (by decide) (by decide), hk 38 (by decide) (by decide), hk 39 (by decide) (by decide), hk 40 (by decide) (by decide), hk 41 (by decide) (by decide), hk 42 (by decide) (by decide), hk 43 (by decide) (by decide), hk 33 (by decide) (by decide), hk 34 (by decide) (by decide)]
  refine ⟨l0, l1, l2, l3, fun s hs n hn h1 => ?_, l5, l6, l7, l8⟩
  rw [h18 s n hs hn h1]
  exact l4 s hs n hn h1
theorem lr_b67 {b b' a : AS} (h : LR Hg b a) (hk : ∀ j, j ≠ 6 → j ≠ 7 → b' j = b j) (h6 : ∀ s n : Nat, s < 2 → n < 64 → Hg s ≤ n → b' (6 + s) n = b (6 + s) n) : LR Hg b' a := by
  obtain ⟨l0, l1, l2, l3, l4, l5, l6, l7, l8⟩ := h
  unfold LR
  rw [hk 1 (by decide) (by decide), hk 8 (by decide) (by decide), hk 9 (by decide) (by decide), hk 10 (by decide) (by decide), hk 11 (by decide) (by decide), hk 12 (by decide) (by decide), hk 13 (by decide) (by decide), hk 14 (by decide) (by decide)]
  refine ⟨l0, l1, fun s hs => ?_, fun s hs => ?_, fun s hs n hn h1 => ?_, l5, l6, l7, l8⟩
  · rw [hk _ (by omega) (by omega)]; exact l2 s hs
  · rw [hk _ (by omega) (by omega)]; exact l3 s hs
  · obtain ⟨v, v1, v2, v3, v4, v5⟩ := l4 s hs n hn h1
    exact ⟨v, v1, v2, v3, fun h64 => by rw [h6 s n hs h64 h1]; exact v4 h64, v5⟩
theorem lr_full {b a : AS} (h : LR Hg b a) (hb : ∀ s n : Nat, s < 2 → n < 64 → n < Hg s → b (6 + s) n = nI 0) (ha : ∀ s n : Nat, s < 2 → n < 8192 → n < Hg s → a 18 (8192 * s + n) = nI 0) : LR Hh b a := by
  obtain ⟨l0, l1, l2, l3, l4, l5, l6, l7, l8⟩ := h
  refine ⟨l0, l1, l2, l3, fun s hs n hn _ => ?_, l5, l6, l7, l8⟩
  by_cases c : Hg s ≤ n
  · exact l4 s hs n hn c
  · exact ⟨0, ha s n hs hn (by omega), Or.inl (by decide), by decide, fun h64 => hb s n hs h64 (by omega), fun _ => rfl⟩
theorem tk_clr {w s E' : Nat} {k21 : AS → Int32 → Int32 → Nat → Int32 → Option (AS × Int32)} (hs : s < 2) (hE : E' < 2 ^ 30) : ∀ (d x m : Nat) (b : AS), x + d = min E' 64 → d < m → b 1 (6 + s) = nI E' → ∃ b', l_L_take_183 k21 w m b (nI s) (6 + s) (nI x) = b_L_take_214 k21 w b' (nI s) (6 + s) ∧ (∀ j, j ≠ 6 + s → b' j = b j) ∧ ∀ i, b' (6 + s) i = if x ≤ i ∧ i < x + d then nI 0 else b (6 + s) i := by
  have e6 : (6 : Int32) + nI s = nI (6 + s) := nI_add 6 s
  have i22 : ixB (nI (6 + s)) 22 = true := ixn (by omega) (by decide)
  have c6 : (nI (6 + s)).toNatClampNeg = 6 + s := nI_clamp (by omega)
  have in6 : inB (6 + s) 64 = true := by rcases (show s = 0 ∨ s = 1 by omega) with rfl | rfl <;> decide
  intro d
  induction d with
  | zero =>
    intro x m b h1 h2 h3
    obtain ⟨m, rfl⟩ : ∃ m', m = m' + 1 := ⟨m - 1, by omega⟩
    refine ⟨b, ?_, fun _ _ => rfl, fun i => by rw [if_neg (by omega)]⟩
    show b_L_take_183 k21 _ w b _ _ _ = _
    unfold b_L_take_183
    rw [e6, i22, c6, h3]
    simp only [cond_true]
    by_cases c : E' ≤ x
    · rw [if_pos ((nI_leI (by omega) (by omega)).mpr c)]
    · rw [if_neg (fun e => c ((nI_leI (by omega) (by omega)).mp e)), if_pos (show (64 : Int32) ≤ nI x from (nI_leI (a := 64) (b := x) (by decide) (by omega)).mpr (by omega))]
  | succ d ih =>
    intro x m b h1 h2 h3
    obtain ⟨m, rfl⟩ : ∃ m', m = m' + 1 := ⟨m - 1, by omega⟩
    have h3' : up2 b (6 + s) x (nI 0) 1 (6 + s) = nI E' := (up2_n _ _ (by omega)).trans h3
    obtain ⟨b', f1, f2, f3⟩ := ih (x + 1) m (up2 b (6 + s) x (nI 0)) (by omega) (by omega) h3'
    refine ⟨b', ?_, fun j hj => (f2 j hj).trans (up2_k _ _ hj), fun i => ?_⟩
    · rw [← f1]
      show b_L_take_183 k21 (l_L_take_183 k21 w m) w b _ _ _ = _
      unfold b_L_take_183
      rw [e6, i22, c6, h3]
      simp only [cond_true]
      rw [if_neg (fun e => by have := (nI_leI (by omega) (by omega)).mp e; omega), if_neg (show ¬ (64 : Int32) ≤ nI x from fun e => by have := (nI_leI (a := 64) (b := x) (by decide) (by omega)).mp e; omega), in6, ixn (show x < 64 by omega) (by decide), nI_clamp (show x < 2 ^ 31 by omega)]
      simp only [cond_true, yl]
      rw [show nI x + (1 : Int32) = nI (x + 1) from nI_add x 1]
      rfl
    · rw [f3]
      by_cases c : i = x
      · subst c
        rw [if_neg (by omega), up2_s, if_pos (by omega)]
      · rw [up2_n _ _ (by omega)]
        by_cases c2 : x + 1 ≤ i ∧ i < x + 1 + d
        · rw [if_pos c2, if_pos (by omega)]
        · rw [if_neg c2, if_neg (by omega)]
theorem phi_thr (a : AS) (s : Nat) : phi (gThrow a s) = phi a := by
  have e : ∀ k, k ≠ 6 → k ≠ 18 → gThrow a s k = a k := fun k h1 h2 => gThrow_r _ _ k h1 h2
  unfold phi hasQ hasL lft
  rw [e 34 (by decide) (by decide), e 24 (by decide) (by decide), e 26 (by decide) (by decide), e 27 (by decide) (by decide), e 28 (by decide) (by decide)]
/-- the next expected -/
def nxE (n f : Nat) : Nat := if 0 < f then (if f ≤ n + 1 then n + 1 else f) else n + 1
theorem nx_5 {a : AS} {s n f : Nat} : gTakes a s n f 5 s = nI (nxE n f) := by
  unfold gTakes nxE
  split
  · rw [up2_s]
  · rw [gTkW_l _ _ _ _ _ (Or.inr (Or.inl rfl)), up2_s]
theorem nx_gt (n f : Nat) : n < nxE n f ∧ (nxE n f ≤ n + 1 ∨ nxE n f = f) := by unfold nxE; split <;> (try split) <;> omega
theorem LR_5 {b a : AS} {s : Nat} (h : LR Hh b a) (hs : s < 2) : b 1 (6 + s) = a 5 s := (h.2.1.2.2.2.2.2.2 s hs).2.2.1
theorem lk_iter {w K O E R s n f : Nat} {k21 : AS → Int32 → Int32 → Nat → Int32 → Option (AS × Int32)} {b c : AS} (h : LR Hg b c) (hH : ∀ t, t < 2 → Hg t ≤ if t = s then n + 1 else 0) (hw : 100 < w) (hs : s < 2) (e5 : c 5 s = nI n) (h1 : 1 ≤ n) (hn : n ≤ tn (c 4 (1 - s))) (hf : f ≤ 64) (hv : sv c) (hrm : rm3 c) (hM : MI K O E R c) (hK : K ≤ 1000) (hN : tn (c 4 s) + 2 ≤ 63) (hc : tn (c 20 (1 - s)) + 2 ≤ 240) (hphi : E + phi c ≤ 60) : ∃ b' : AS, b_L_take_21 k21 w b (nI s) (nI f) (6 + s) 1 = b_L_take_214 k21 w b' (nI s) (6 + s) ∧ LR Hh b' (gThrow (gTakes c s n f) s) ∧ tn (gThrow (gTakes c s n f) s 0 35) + phi (gThrow (gTakes c s n f) s) ≤ 60 := by
  have hn63 : n ≤ 63 := by
    obtain ⟨N', e4', hN', -⟩ := h.2.2.2.1 (1 - s) (by omega)
    rw [e4', tnI (by omega)] at hn; omega
  obtain ⟨b1, f1, f2, f3⟩ := lk_takes (k21 := k21) h hw hs (by rw [e5, tnI (by omega)]) h1 hn hf hv hrm hM hK hN hc hphi
  have e6 : (6 : Int32) + nI s = nI (6 + s) := nI_add 6 s
  have i22 : ixB (nI (6 + s)) 22 = true := ixn (by omega) (by decide)
  have c6 : (nI (6 + s)).toNatClampNeg = 6 + s := nI_clamp (by omega)
  obtain ⟨nx1, nx2⟩ := nx_gt n f
  have hE' : nxE n f ≤ 64 := by omega
  have hb5 : b1 1 (6 + s) = nI (nxE n f) := (LR_5 f2 hs).trans nx_5
  obtain ⟨b2, g1, g2, g3⟩ := tk_clr (w := w) (k21 := k21) hs (show nxE n f < 2 ^ 30 by omega) (min (nxE n f) 64) 0 w b1 (by omega) (by omega) hb5
  have hX : ∀ t i : Nat, t < 2 → i < 8192 → gThrow (gTakes c s n f) s 18 (8192 * t + i) = if t = s ∧ i < nxE n f then nI 0 else gTakes c s n f 18 (8192 * t + i) := fun t i ht hi => by
    unfold gThrow
    rw [nx_5, tnI (show nxE n f < 2 ^ 31 by omega), gThr_18]
    by_cases cc : t = s ∧ i < nxE n f
    · rw [if_pos cc, if_pos (by omega)]
    · rw [if_neg cc, if_neg (by omega)]
  refine ⟨b2, ?_, ?_, ?_⟩
  · rw [← g1]
    unfold b_L_take_21
    rw [if_neg (show ¬ (1 : Int32) = 0 by decide), e6, i22, c6, LR_5 h hs, e5]
    simp only [cond_true, yl]
    rcases (show s = 0 ∨ s = 1 by omega) with rfl | rfl
    · rw [if_pos (show nI 0 = (0 : Int32) from rfl)]
      exact f1
    · rw [if_neg (show ¬ nI 1 = (0 : Int32) by decide)]
      exact f1
  · have w1 : LR (fun t => if t = s then nxE n f else 0) b1 (gTakes c s n f) := lr_weak f2 (fun t ht => by
      have := hH t ht
      by_cases ct : t = s
      · rw [if_pos ct] at this
        show Hg t ≤ if t = s then nxE n f else 0
        rw [if_pos ct]; omega
      · rw [if_neg ct] at this; omega)
    have w2 := lr_b67 (b' := b2) w1 (fun j h1 h2 => g2 j (by omega)) (fun t i ht hi hle => by
      by_cases ct : t = s
      · subst ct
        rw [if_pos rfl] at hle
        rw [g3, if_neg (by omega)]
      · rw [g2 _ (by omega)])
    have w3 := lr_g18 (a' := gThrow (gTakes c s n f) s) w2 (fun k h1 h2 => gThrow_r _ _ k h1 h2) (fun t i ht hi hle => by
      rw [hX t i ht hi, if_neg (fun cc => by rw [if_pos cc.1] at hle; omega)])
    refine lr_full w3 (fun t i ht hi hlt => ?_) (fun t i ht hi hlt => ?_)
    · by_cases ct : t = s
      · subst ct
        rw [if_pos rfl] at hlt
        rw [g3, if_pos (by omega)]
      · rw [if_neg ct] at hlt; omega
    · by_cases ct : t = s
      · rw [if_pos ct] at hlt
        rw [hX t i ht hi, if_pos ⟨ct, hlt⟩]
      · rw [if_neg ct] at hlt; omega
  · rw [phi_thr, gThrow_r _ _ 0 (by decide) (by decide)]
    exact f3
