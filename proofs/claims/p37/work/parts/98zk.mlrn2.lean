/-! What the trader learns: busts, all of it. -/
theorem MI_tbust {K O E R o x : Nat} {a : AS} (ho : o < O) (hx : x < E) (h36 : a 36 x = nI o) (h42 : a 42 x ≠ nI 0) (h43 : a 43 x = nI 0) (h43h : a 43 (100 + x) ≠ nI 0) (hp : ∀ n : Nat, tn (a 5 0) ≤ n → n ≤ tn (a 4 1) → ¬ isB a (8192 * 1 + n) x) (h : MI K O E R a) : MI K O E R (up2 (up2 (up2 a 43 x (nI 1)) 27 o (a 27 o - a 39 x)) 28 o (a 28 o + a 39 x)) := by
  obtain ⟨g1, g2, g3, g4, g5, g6, g7, g8, g9, g10, g11, g12⟩ := h
  obtain ⟨y1, y2, y3, y4, y5⟩ := id g1
  have eO : tn (a 0 22) = O := by rw [y1, tnI (by omega)]
  generalize hb : up2 (up2 (up2 a 43 x (nI 1)) 27 o (a 27 o - a 39 x)) 28 o (a 28 o + a 39 x) = b
  have F : ∀ k i : Nat, ¬ (k = 43 ∧ i = x) → ¬ (k = 27 ∧ i = o) → ¬ (k = 28 ∧ i = o) → b k i = a k i := fun k i w1 w2 w3 => by
    rw [← hb, up2_n _ _ w3, up2_n _ _ w2, up2_n _ _ w1]
  have n27 : b 27 o = a 27 o - a 39 x := by
    rw [← hb, up2_n _ _ (by omega), up2_s]
  have n43 : b 43 x = nI 1 := by
    rw [← hb, up2_n _ _ (by omega), up2_n _ _ (by omega), up2_s]
  have hm : mrow a b := ⟨fun s _ => F _ _ (by omega) (by omega) (by omega), fun k i hk => F _ _ (by omega) (by omega) (by omega)⟩
  refine ⟨⟨(F _ _ (by omega) (by omega) (by omega)).trans y1, y2, (F _ _ (by omega) (by omega) (by omega)).trans y3, y4, (F _ _ (by omega) (by omega) (by omega)).trans y5⟩, mb2_c (fun o' _ => ⟨F _ _ (by omega) (by omega) (by omega), F _ _ (by omega) (by omega) (by omega), F _ _ (by omega) (by omega) (by omega), F _ _ (by omega) (by omega) (by omega)⟩) (fun e _ => ⟨F _ _ (by omega) (by omega) (by omega), F _ _ (by omega) (by omega) (by omega), F _ _ (by omega) (by omega) (by omega)⟩) g2, fun o' ho' => ?_, mb4_c (fun o' _ => ⟨F _ _ (by omega) (by omega) (by omega), F _ _ (by omega) (by omega) (by omega), F _ _ (by omega) (by omega) (by omega)⟩) y2 g4, fun e he => ?_, mb6_c (fun e h1 h2 => ⟨F _ _ (by omega) (by omega) (by omega), F _ _ (by omega) (by omega) (by omega), F _ _ (by omega) (by omega) (by omega), F _ _ (by omega) (by omega) (by omega), F _ _ (by omega) (by omega) (by omega), F _ _ (by omega) (by omega) (by omega), F _ _ (by omega) (by omega) (by omega)⟩) g6, mb7_c (fun q _ => ⟨F _ _ (by omega) (by omega) (by omega), F _ _ (by omega) (by omega) (by omega)⟩) g7, frO_c (F _ _ (by omega) (by omega) (by omega)) (fun o' h1 h2 => ?_) g8, mm1_c (Nat.le_refl _) (Nat.le_refl _) hm (fun e _ => ⟨F _ _ (by omega) (by omega) (by omega), fun c => by rw [F _ _ (by omega) (by omega) (by omega)]; exact c⟩) g9, ⟨fun n f t e h1 hn' hF w1 w2 => ?_, fun n e h1 hn' hB => ?_⟩, mm3_c hm g11, mm4_c hm (by rw [F 5 1 (by omega) (by omega) (by omega)]; exact Nat.le_refl _) g12⟩
  · have hx' : ∀ e, e < E → e ≠ x → b 36 e = a 36 e ∧ b 39 e = a 39 e ∧ b 42 (100 * 0 + e) = a 42 (100 * 0 + e) ∧ b 43 (100 * 0 + e) = a 43 (100 * 0 + e) := fun e _ hne => ⟨F _ _ (by omega) (by omega) (by omega), F _ _ (by omega) (by omega) (by omega), F _ _ (by omega) (by omega) (by omega), F _ _ (by omega) (by omega) (by omega)⟩
    have n36 : b 36 x = a 36 x := F _ _ (by omega) (by omega) (by omega)
    have n39 : b 39 x = a 39 x := F _ _ (by omega) (by omega) (by omega)
    have hb' : ¬ cntO b 0 o' x := fun c => by
      have := c.2.2
      rw [show 100 * 0 + x = x by omega, n43] at this
      exact absurd this (by decide)
    by_cases c : o' = o
    · subst c
      have ha : cntO a 0 o' x := by
        unfold cntO
        rw [show 100 * 0 + x = x by omega]
        exact ⟨h36, h42, h43⟩
      have hx2 : ∀ e, e < E → e ≠ x → a 36 e = b 36 e ∧ a 39 e = b 39 e ∧ a 42 (100 * 0 + e) = b 42 (100 * 0 + e) ∧ a 43 (100 * 0 + e) = b 43 (100 * 0 + e) := fun e he hne => ⟨(hx' e he hne).1.symm, (hx' e he hne).2.1.symm, (hx' e he hne).2.2.1.symm, (hx' e he hne).2.2.2.symm⟩
      have hl := lsum_add E hx hx2 hb' ha
      rw [n27, ← g3 o' ho', hl, add_sub_r]
    · have ha : ¬ cntO a 0 o' x := fun hh => c ((nI_eq (by omega) (by omega)).mp (hh.1.symm.trans h36))
      rw [F 27 o' (by omega) (by omega) (by omega), ← g3 o' ho']
      exact lsum_ne E hx' ha hb'
  · by_cases c : e = x
    · subst c
      obtain ⟨⟨o1, q1, q2, q3⟩, ⟨v, v1, v2⟩, ⟨z, z1, z2⟩, ⟨p, p1, p2⟩, t1, t2, t3⟩ := g5 e he
      refine ⟨⟨o1, q1, (F _ _ (by omega) (by omega) (by omega)).trans q2, by rw [F _ _ (by omega) (by omega) (by omega)]; exact q3⟩, ⟨v, v1, (F _ _ (by omega) (by omega) (by omega)).trans v2⟩, ⟨z, z1, (F _ _ (by omega) (by omega) (by omega)).trans z2⟩, ⟨p, p1, (F _ _ (by omega) (by omega) (by omega)).trans p2⟩, by rw [F _ _ (by omega) (by omega) (by omega)]; exact t1, fun c => ?_, fun _ => by rw [F _ _ (by omega) (by omega) (by omega)]; exact h43h⟩
      rw [F _ _ (by omega) (by omega) (by omega)] at c
      exact absurd c h42
    · exact exK_c ⟨F _ _ (by omega) (by omega) (by omega), F _ _ (by omega) (by omega) (by omega), F _ _ (by omega) (by omega) (by omega), F _ _ (by omega) (by omega) (by omega), F _ _ (by omega) (by omega) (by omega), F _ _ (by omega) (by omega) (by omega), F _ _ (by omega) (by omega) (by omega), F _ _ (by omega) (by omega) (by omega)⟩ (fun o _ c => by rw [F _ _ (by omega) (by omega) (by omega)]; exact c) (g5 e he)
  · rw [eO] at h1
    exact ⟨F _ _ (by omega) (by omega) (by omega), F _ _ (by omega) (by omega) (by omega), F _ _ (by omega) (by omega) (by omega), F _ _ (by omega) (by omega) (by omega), F _ _ (by omega) (by omega) (by omega), F _ _ (by omega) (by omega) (by omega), F _ _ (by omega) (by omega) (by omega), F _ _ (by omega) (by omega) (by omega), F _ _ (by omega) (by omega) (by omega), F _ _ (by omega) (by omega) (by omega)⟩
  · rw [F 5 0 (by omega) (by omega) (by omega)] at h1
    rw [hm.1 1 (by decide)] at hn'
    rw [F 42 e (by omega) (by omega) (by omega)]
    exact g10.1 n f t e h1 hn' (isF_c (hm.2 11 _ (by omega)) (hm.2 14 _ (by omega)) (hm.2 16 _ (by omega)) (hm.2 17 _ (by omega)) hF) w1 w2
  · rw [F 5 0 (by omega) (by omega) (by omega)] at h1
    rw [hm.1 1 (by decide)] at hn'
    have hB' := isB_c (hm.2 11 _ (by omega)) (hm.2 14 _ (by omega)) (hm.2 16 _ (by omega)) hB
    have hne : e ≠ x := fun c => hp n h1 hn' (c ▸ hB')
    rw [F 43 e (by omega) (by omega) (by omega)]
    exact g10.2 n e h1 hn' hB'
/-- a request ends, or is added -/
theorem MI_30 {K O E R o : Nat} {a : AS} {v : Int32} (ho : o < O) (h : MI K O E R a) : MI K O E R (up2 a 30 o v) :=
  MI_line (fun k i hk => up2_n _ _ (by omega)) (fun i hi => up2_n _ _ (by omega)) (fun o' h1 h2 => ⟨up2_n _ _ (by omega), up2_n _ _ (by omega)⟩) (fun s hs => by rw [up2_n _ _ (by omega)]; exact Nat.le_refl _) h
/-- the trader's book, but for what is done -/
theorem MI_tb {K O E R o : Nat} {a b : AS} (ho : o < O) (F : ∀ k i : Nat, ¬ ((k = 24 ∨ k = 25 ∨ k = 26 ∨ k = 28) ∧ i = o) → b k i = a k i) (h : MI K O E R a) : MI K O E R b := by
  have hO := h.1.2.1
  exact MI_gen (fun k i hk => F _ _ (by omega)) (fun k o' hk ho' => F _ _ (by omega)) (fun e _ _ => F _ _ (by omega)) (fun i _ => F _ _ (by omega)) (fun k o' _ _ h3 _ => F _ _ (by omega)) (fun s _ => by rw [F 5 s (by omega)]; exact Nat.le_refl _) h
theorem MI_41 {K O E R x : Nat} {a : AS} {v : Int32} (hx : x < E ∨ 100 ≤ x) (h : MI K O E R a) : MI K O E R (up2 a 41 x v) :=
  MI_gen (fun k i hk => up2_n _ _ (by omega)) (fun k o' hk ho' => up2_n _ _ (by omega)) (fun e _ _ => up2_n _ _ (by omega)) (fun i _ => up2_n _ _ (by omega)) (fun k o' _ _ h3 _ => up2_n _ _ (by omega)) (fun s _ => by rw [up2_n _ _ (by omega)]; exact Nat.le_refl _) h
theorem MI_learns {K O E R n : Nat} {a : AS} (h1 : 1 ≤ n) (hn : n ≤ tn (a 4 1)) (h5 : n < tn (a 5 0)) (h8 : a 11 (8192 * 1 + n) = nI 8) (hF : ∀ f t e : Nat, isF a (8192 * 1 + n) f t → f ≤ e → e < f + t → a 42 e = nI 0) (hB : ∀ e, isB a (8192 * 1 + n) e → a 43 e = nI 0) (h : MI K O E R a) : MI K O E R (gLearns a (8192 * 1 + n)) := by
  have hm1 := h.2.2.2.2.2.2.2.2.1
  have hm3 := h.2.2.2.2.2.2.2.2.2.2.1
  have hE := h.1.2.2.2.1
  have hO := h.1.2.1
  obtain ⟨σ, o, w1, w2, w3, w4, w5, w6, w7⟩ := (hm1 1 n (by decide) h1 hn).2.2.2 rfl h8
  unfold gLearns
  rw [w1, w3, tnI (show σ < 2 ^ 31 by omega), tnI (show o < 2 ^ 31 by omega)]
  refine MI_30 w4 ?_
  unfold gLrn
  by_cases c0 : σ = 0
  · rw [if_pos c0]
    exact MI_tb w4 (fun k i hc => up2_n _ _ (fun hh => hc ⟨Or.inl hh.1, hh.2⟩)) h
  rw [if_neg c0]
  by_cases c1 : σ = 1
  · rw [if_pos c1]
    obtain ⟨f, t, q1, q2, q3, q4⟩ := w5 c1
    have hF0 : isF a (8192 * 1 + n) f t := ⟨h8, by rw [w1, c1], q1, q2, by omega⟩
    rw [q1, q2, tnI (show f < 2 ^ 31 by omega), tnI (show t < 2 ^ 31 by omega)]
    refine MI_knows w4 t f a q3 (fun e z1 z2 => ⟨q4 e z1 z2, hF f t e hF0 z1 z2⟩) (fun n' f' t' e z1 z2 hF' z3 z4 z5 => ?_) h
    have := hm3.1 n n' f t f' t' h1 (by omega) z2 hF0 hF'
    omega
  rw [if_neg c1]
  by_cases c2 : σ = 2
  · rw [if_pos c2]
    exact MI_tb w4 (fun k i hc => up2_n _ _ (fun hh => hc ⟨Or.inr (Or.inr (Or.inr hh.1)), hh.2⟩)) h
  rw [if_neg c2]
  by_cases c3 : σ = 3
  · rw [if_pos c3]
    refine MI_tb w4 (fun k i hc => ?_) h
    rw [up2_n _ _ (fun hh => hc ⟨Or.inr (Or.inr (Or.inl hh.1)), hh.2⟩), up2_n _ _ (fun hh => hc ⟨Or.inr (Or.inl hh.1), hh.2⟩)]
  rw [if_neg c3]
  by_cases c5 : σ = 5
  · rw [if_pos c5]
    obtain ⟨x, q1, q2, q3, q4⟩ := w6 c5
    have hB0 : isB a (8192 * 1 + n) x := ⟨h8, by rw [w1, c5], q1, by omega⟩
    rw [q1, tnI (show x < 2 ^ 31 by omega)]
    split
    · exact h
    · rename_i c42
      exact MI_tbust w4 q2 q3 c42 (hB x hB0) q4 (fun n' z1 z2 hB' => hm3.2 n n' x h1 (by omega) z2 hB0 hB') h
  rw [if_neg c5]
  by_cases c6 : σ = 6
  · rw [if_pos c6]
    obtain ⟨x, q1, q2⟩ := w7 c6
    rw [q1, tnI (show x < 2 ^ 31 by omega)]
    split
    · exact h
    · exact MI_41 (Or.inl q2) h
  · rw [if_neg c6]
    exact h
