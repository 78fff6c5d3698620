/-! Executions and routing, in what is kept. -/
theorem lft_n {a : AS} {o z d u : Nat} (h1 : d + u ≤ z) (h26 : a 26 (40 + o) = nI z) (h27 : a 27 (40 + o) = nI d) (h28 : a 28 (40 + o) = nI u) : lft a (40 + o) = nI (z - d - u) := by
  show a 26 (40 + o) - a 27 (40 + o) - a 28 (40 + o) = _
  rw [h26, h27, h28, pk_sub (by omega), pk_sub (by omega)]
theorem its_n {a : AS} {o q L Z : Nat} (hL : L < 2 ^ 31) (hZ : Z < 2 ^ 31) (h1 : lft a (40 + o) = nI L) (h2 : a 34 q = nI Z) : ∃ I : Nat, itsOf a o q = nI I ∧ I ≤ L ∧ I ≤ Z := by
  show ∃ I : Nat, (if a 34 q ≤ lft a (40 + o) then a 34 q else lft a (40 + o)) = nI I ∧ _
  rw [h1, h2]
  by_cases c : nI Z ≤ nI L
  · rw [if_pos c]
    exact ⟨Z, rfl, (nI_leI hZ hL).mp c, Nat.le_refl _⟩
  · rw [if_neg c]
    have : ¬ Z ≤ L := fun h => c ((nI_leI hZ hL).mpr h)
    exact ⟨L, rfl, Nat.le_refl _, by omega⟩
theorem MI_trade {K O E R o q : Nat} {a : AS} (ho : o < O) (hq : q < 6) (hE : E < 100) (h24 : a 24 (40 + o) ≠ nI 0) (h : MI K O E R a) : MI K O (E + 1) R (gTrade a o q (itsOf a o q)) ∧ (∀ e, e < E → gTrade a o q (itsOf a o q) 36 e = a 36 e ∧ gTrade a o q (itsOf a o q) 42 e = a 42 e) ∧ gTrade a o q (itsOf a o q) 36 E = nI o ∧ gTrade a o q (itsOf a o q) 42 E = nI 0 := by
  obtain ⟨g1, g2, g3, g4, g5, g6, g7, g8, g9, g10, g11, g12⟩ := h
  obtain ⟨y1, y2, y3, y4, y5⟩ := id g1
  have eE : tn (a 0 35) = E := by rw [y3, tnI (by omega)]
  have eO : tn (a 0 22) = O := by rw [y1, tnI (by omega)]
  obtain ⟨z, d, u, z1, z2, z3, z4, z5, z6, z7⟩ := g2 o (by omega)
  obtain ⟨⟨p, p1, p2⟩, Z, q1, q2⟩ := g7 q hq
  obtain ⟨I, hI, hI1, hI2⟩ := its_n (L := z - d - u) (by omega) (by omega) (lft_n z2 z3 z4 z5) q2
  rw [hI]
  have F : ∀ k i : Nat, k ≠ 27 → k ≠ 34 → (k < 36 ∨ 42 < k) → ¬ (k = 0 ∧ i = 35) → gTrade a o q (nI I) k i = a k i := fun k i w1 w2 w3 w4 => gTrade_k a o q (nI I) k i w1 w2 w3 w4
  have f27 : ∀ i, i ≠ 40 + o → gTrade a o q (nI I) 27 i = a 27 i := fun i hi => by
    unfold gTrade
    simp (disch := omega) only [up2_n]
  have f27o : gTrade a o q (nI I) 27 (40 + o) = a 27 (40 + o) + nI I := by
    unfold gTrade
    simp (disch := omega) only [up2_n, up2_s]
  have f34 : ∀ i, i ≠ q → gTrade a o q (nI I) 34 i = a 34 i := fun i hi => by
    unfold gTrade
    simp (disch := omega) only [up2_n]
  have f34q : gTrade a o q (nI I) 34 q = a 34 q - nI I := by
    unfold gTrade
    simp (disch := omega) only [up2_n, up2_s]
  have fE : ∀ k i : Nat, 36 ≤ k → k ≤ 42 → i ≠ E → i ≠ 100 + E → gTrade a o q (nI I) k i = a k i := fun k i w1 w2 w3 w4 => by
    unfold gTrade
    rw [eE]
    simp (disch := omega) only [up2_n]
  have f42 : ∀ i, i ≠ 100 + E → gTrade a o q (nI I) 42 i = a 42 i := fun i w4 => by
    unfold gTrade
    rw [eE]
    simp (disch := omega) only [up2_n]
  have n36 : gTrade a o q (nI I) 36 E = nI o := by
    unfold gTrade
    rw [eE]
    simp (disch := omega) only [up2_n, up2_s]
  have n37 : gTrade a o q (nI I) 37 E = nI (q / 2) := by
    unfold gTrade
    rw [eE]
    simp (disch := omega) only [up2_n, up2_s]
  have n39 : gTrade a o q (nI I) 39 E = nI I := by
    unfold gTrade
    rw [eE]
    simp (disch := omega) only [up2_n, up2_s]
  have n40 : gTrade a o q (nI I) 40 E = a 33 q := by
    unfold gTrade
    rw [eE]
    simp (disch := omega) only [up2_n, up2_s]
  have n42 : gTrade a o q (nI I) 42 (100 + E) = nI 1 := by
    unfold gTrade
    rw [eE]
    simp (disch := omega) only [up2_n, up2_s]
  have n35 : gTrade a o q (nI I) 0 35 = nI (E + 1) := gTrade_e a o q E (nI I) y3 hE
  obtain ⟨e37, e39, e40, e41, e42, e43, e43h⟩ := g6 E (Nat.le_refl _) hE
  have hm : mrow a (gTrade a o q (nI I)) := ⟨fun s _ => F _ _ (by omega) (by omega) (by omega) (by omega), fun k i hk => F _ _ (by omega) (by omega) (by omega) (by omega)⟩
  have b42 : gTrade a o q (nI I) 42 E = nI 0 := by rw [f42 E (by omega)]; exact e42
  have b43h : gTrade a o q (nI I) 43 (100 + E) = nI 0 := by rw [F 43 _ (by omega) (by omega) (by omega) (by omega)]; exact e43h
  refine ⟨⟨⟨?_, y2, n35, by omega, ?_⟩, fun o' ho' => ?_, fun o' ho' => ?_, mb4_c (fun o _ => ⟨F _ _ (by omega) (by omega) (by omega) (by omega), F _ _ (by omega) (by omega) (by omega) (by omega), F _ _ (by omega) (by omega) (by omega) (by omega)⟩) y2 g4, fun e he => ?_, fun e h1 h2 => ?_, fun q' hq' => ?_, ?_, mm1_c (Nat.le_refl _) (Nat.le_succ _) hm (fun e he => ⟨fE _ _ (by omega) (by omega) (by omega) (by omega), fun c => by rw [F 43 _ (by omega) (by omega) (by omega) (by omega)]; exact c⟩) g9, mm2_c hm (by rw [F 5 0 (by omega) (by omega) (by omega) (by omega)]; exact Nat.le_refl _) (fun e he => ⟨fun c => by rw [f42 e (by omega)]; exact c, fun c => by rw [F 43 _ (by omega) (by omega) (by omega) (by omega)]; exact c⟩) g10, mm3_c hm g11, mm4_c hm (by rw [F 5 1 (by omega) (by omega) (by omega) (by omega)]; exact Nat.le_refl _) g12⟩, fun e he => ⟨fE _ _ (by omega) (by omega) (by omega) (by omega), fE _ _ (by omega) (by omega) (by omega) (by omega)⟩, n36, b42⟩
  · exact (F 0 22 (by omega) (by omega) (by omega) (by omega)).trans y1
  · exact (F 0 32 (by omega) (by omega) (by omega) (by omega)).trans y5
  · have hs0 : hSm (gTrade a o q (nI I)) o' E = hSm a o' E := hSm_c E (fun e he => ⟨fE _ _ (by omega) (by omega) (by omega) (by omega), fE _ _ (by omega) (by omega) (by omega) (by omega), F _ _ (by omega) (by omega) (by omega) (by omega)⟩)
    have hs : hSm (gTrade a o q (nI I)) o' (E + 1) = hSm a o' E + (if o = o' then I else 0) := by
      show hSm _ o' E + _ = _
      rw [hs0, n36, n39, b43h, tnI (by omega)]
      by_cases c : o = o'
      · rw [if_pos c, if_pos ⟨by rw [c], rfl⟩]
      · rw [if_neg c, if_neg (fun h => c ((nI_eq (by omega) (by omega)).mp h.1))]
    by_cases c : o = o'
    · subst c
      rw [if_pos rfl] at hs
      exact ⟨z, d + I, u, z1, by omega, (F _ _ (by omega) (by omega) (by omega) (by omega)).trans z3, by rw [f27o, z4, nI_add], (F _ _ (by omega) (by omega) (by omega) (by omega)).trans z5, by rw [hs, z6], fun c => absurd ((F 24 _ (by omega) (by omega) (by omega) (by omega)).symm.trans c) h24⟩
    · rw [if_neg c] at hs
      obtain ⟨z', d', u', x1, x2, x3, x4, x5, x6, x7⟩ := g2 o' ho'
      exact ⟨z', d', u', x1, x2, (F _ _ (by omega) (by omega) (by omega) (by omega)).trans x3, (f27 _ (by omega)).trans x4, (F _ _ (by omega) (by omega) (by omega) (by omega)).trans x5, by rw [hs, x6]; rfl, fun c => x7 ((F 24 _ (by omega) (by omega) (by omega) (by omega)).symm.trans c)⟩
  · have hc : ¬ cntO (gTrade a o q (nI I)) 0 o' E := fun c => c.2.1 (by rw [show 100 * 0 + E = E by omega]; exact b42)
    rw [lsum_neg hc, f27 _ (by omega), ← g3 o' ho']
    refine lsum_c E (fun e he => ?_)
    rw [show 100 * 0 + e = e by omega]
    exact ⟨fE _ _ (by omega) (by omega) (by omega) (by omega), fE _ _ (by omega) (by omega) (by omega) (by omega), fE _ _ (by omega) (by omega) (by omega) (by omega), F _ _ (by omega) (by omega) (by omega) (by omega)⟩
  · by_cases c : e = E
    · subst c
      refine ⟨⟨o, ho, n36, by rw [F 24 _ (by omega) (by omega) (by omega) (by omega)]; exact h24⟩, ⟨q / 2, by omega, n37⟩, ⟨I, by omega, n39⟩, ⟨p, p1, n40.trans p2⟩, by rw [n42]; decide, fun _ => ?_, fun c => ?_⟩
      · rw [F 43 _ (by omega) (by omega) (by omega) (by omega)]; exact e43
      · rw [F 43 _ (by omega) (by omega) (by omega) (by omega)] at c
        exact absurd e43 c
    · exact exK_c ⟨fE _ _ (by omega) (by omega) (by omega) (by omega), fE _ _ (by omega) (by omega) (by omega) (by omega), fE _ _ (by omega) (by omega) (by omega) (by omega), fE _ _ (by omega) (by omega) (by omega) (by omega), fE _ _ (by omega) (by omega) (by omega) (by omega), fE _ _ (by omega) (by omega) (by omega) (by omega), F _ _ (by omega) (by omega) (by omega) (by omega), F _ _ (by omega) (by omega) (by omega) (by omega)⟩ (fun o _ c => by rw [F 24 _ (by omega) (by omega) (by omega) (by omega)]; exact c) (g5 e (by omega))
  · rw [fE 37 e (by omega) (by omega) (by omega) (by omega), fE 39 e (by omega) (by omega) (by omega) (by omega), fE 40 e (by omega) (by omega) (by omega) (by omega), fE 41 e (by omega) (by omega) (by omega) (by omega), fE 42 e (by omega) (by omega) (by omega) (by omega), F 43 e (by omega) (by omega) (by omega) (by omega), F 43 (100 + e) (by omega) (by omega) (by omega) (by omega)]
    exact g6 e (by omega) h2
  · obtain ⟨⟨p', w1, w2⟩, Z', w3, w4⟩ := g7 q' hq'
    refine ⟨⟨p', w1, (F 33 _ (by omega) (by omega) (by omega) (by omega)).trans w2⟩, ?_⟩
    by_cases c : q' = q
    · subst c
      exact ⟨Z - I, by omega, by rw [f34q, q2, pk_sub hI2]⟩
    · exact ⟨Z', w3, (f34 _ c).trans w4⟩
  · refine frO_c (F 0 22 (by omega) (by omega) (by omega) (by omega)) (fun o' h1 h2 => ?_) g8
    rw [eO] at h1
    exact ⟨F _ _ (by omega) (by omega) (by omega) (by omega), F _ _ (by omega) (by omega) (by omega) (by omega), F _ _ (by omega) (by omega) (by omega) (by omega), F _ _ (by omega) (by omega) (by omega) (by omega), f27 _ (by omega), F _ _ (by omega) (by omega) (by omega) (by omega), F _ _ (by omega) (by omega) (by omega) (by omega), F _ _ (by omega) (by omega) (by omega) (by omega), f27 _ (by omega), F _ _ (by omega) (by omega) (by omega) (by omega)⟩
theorem MI_routeL {K O R o : Nat} : ∀ (k E : Nat) (a : AS), o < O → a 24 (40 + o) ≠ nI 0 → MI K O E R a → ∃ E' : Nat, E ≤ E' ∧ MI K O E' R (gRouteL o k a) ∧ (∀ e, e < E → gRouteL o k a 36 e = a 36 e ∧ gRouteL o k a 42 e = a 42 e) ∧ ∀ e, E ≤ e → e < E' → gRouteL o k a 36 e = nI o ∧ gRouteL o k a 42 e = nI 0 := by
  intro k
  induction k with
  | zero => exact fun E a _ _ h => ⟨E, Nat.le_refl _, h, fun _ _ => ⟨rfl, rfl⟩, fun e h1 h2 => by omega⟩
  | succ k ih =>
    intro E a ho h24 h
    show ∃ E' : Nat, E ≤ E' ∧ MI K O E' R (if gBest a o = 0 ∨ lft a (40 + o) ≤ nI 0 ∨ 100 ≤ tn (a 0 35) then a else gRouteL o k (gTrade a o (2 * (gBest a o - 1) + tn (a 23 o)) (itsOf a o (2 * (gBest a o - 1) + tn (a 23 o))))) ∧ (∀ e, e < E → (if gBest a o = 0 ∨ lft a (40 + o) ≤ nI 0 ∨ 100 ≤ tn (a 0 35) then a else gRouteL o k (gTrade a o (2 * (gBest a o - 1) + tn (a 23 o)) (itsOf a o (2 * (gBest a o - 1) + tn (a 23 o))))) 36 e = a 36 e ∧ (if gBest a o = 0 ∨ lft a (40 + o) ≤ nI 0 ∨ 100 ≤ tn (a 0 35) then a else gRouteL o k (gTrade a o (2 * (gBest a o - 1) + tn (a 23 o)) (itsOf a o (2 * (gBest a o - 1) + tn (a 23 o))))) 42 e = a 42 e) ∧ ∀ e, E ≤ e → e < E' → (if gBest a o = 0 ∨ lft a (40 + o) ≤ nI 0 ∨ 100 ≤ tn (a 0 35) then a else gRouteL o k (gTrade a o (2 * (gBest a o - 1) + tn (a 23 o)) (itsOf a o (2 * (gBest a o - 1) + tn (a 23 o))))) 36 e = nI o ∧ (if gBest a o = 0 ∨ lft a (40 + o) ≤ nI 0 ∨ 100 ≤ tn (a 0 35) then a else gRouteL o k (gTrade a o (2 * (gBest a o - 1) + tn (a 23 o)) (itsOf a o (2 * (gBest a o - 1) + tn (a 23 o))))) 42 e = nI 0
    by_cases c : gBest a o = 0 ∨ lft a (40 + o) ≤ nI 0 ∨ 100 ≤ tn (a 0 35)
    · rw [if_pos c]
      exact ⟨E, Nat.le_refl _, h, fun _ _ => ⟨rfl, rfl⟩, fun e h1 h2 => by omega⟩
    · rw [if_neg c]
      obtain ⟨y1, y2, y3, y4, y5⟩ := h.1
      have eE : tn (a 0 35) = E := by rw [y3, tnI (by omega)]
      obtain ⟨d, d1, d2⟩ := h.2.2.2.1.1 o ho
      have ed : tn (a 23 o) = d := by rw [d2, tnI (by omega)]
      have hb := gBest_le a o
      have hb0 : gBest a o ≠ 0 := fun h => c (Or.inl h)
      have hE : E < 100 := Nat.lt_of_not_le (fun hh => c (Or.inr (Or.inr (by omega))))
      obtain ⟨t1, t2, t3, t4⟩ := MI_trade ho (show 2 * (gBest a o - 1) + tn (a 23 o) < 6 by omega) hE h24 h
      obtain ⟨E', i1, i2, i3, i4⟩ := ih (E + 1) _ ho (by rw [gTrd_r _ _ _ _ 24 (by omega) (by decide)]; exact h24) t1
      refine ⟨E', by omega, i2, fun e he => ⟨(i3 e (by omega)).1.trans (t2 e he).1, (i3 e (by omega)).2.trans (t2 e he).2⟩, fun e h1 h2 => ?_⟩
      by_cases ce : e = E
      · subst ce
        exact ⟨(i3 e (by omega)).1.trans t3, (i3 e (by omega)).2.trans t4⟩
      · exact i4 e (by omega) h2
/-- what a FILLED that is kept speaks of -/
theorem isF_K {a : AS} {O E n f t : Nat} (h : mm1 a O E) (hE : E ≤ 100) (h1 : 1 ≤ n) (hn : n ≤ tn (a 4 1)) (hF : isF a (8192 * 1 + n) f t) : f + t ≤ E ∧ ∃ o : Nat, a 15 (8192 * 1 + n) = nI o ∧ o < O ∧ ∀ e, f ≤ e → e < f + t → a 36 e = nI o := by
  obtain ⟨y1, y2, y3, y4, y5⟩ := hF
  obtain ⟨σ, o, w1, w2, w3, w4, w5, -⟩ := (h 1 n (by decide) h1 hn).2.2.2 rfl y1
  have eσ : σ = 1 := (nI_eq (by omega) (by omega)).mp (w1.symm.trans y2)
  obtain ⟨f', t', x1, x2, x3, x4⟩ := w5 eσ
  have ef : f' = f := (nI_eq (by omega) (by omega)).mp (x1.symm.trans y3)
  have et : t' = t := (nI_eq (by omega) (by omega)).mp (x2.symm.trans y4)
  subst ef et
  exact ⟨x3, o, w3, w4, x4⟩
theorem MI_routes {K O E R o S : Nat} {a : AS} (ho : o < O) (h24 : a 24 (40 + o) ≠ nI 0) (e : a 4 1 = nI S) (hS : S + 1 ≤ 8190) (hl : lgN a 0 ≤ 8190) (h : MI K O E R a) : ∃ E' : Nat, E ≤ E' ∧ MI K O E' R (gRoutes a o) := by
  obtain ⟨E', h1, h2, h3, h4⟩ := MI_routeL 102 E a ho h24 h
  obtain ⟨y1, y2, y3, y4, y5⟩ := h.1
  obtain ⟨x1, x2, x3, x4, x5⟩ := h2.1
  have eE : tn (a 0 35) = E := by rw [y3, tnI (by omega)]
  have eE' : tn (gRouteL o 102 a 0 35) = E' := by rw [x3, tnI (by omega)]
  refine ⟨E', h1, ?_⟩
  unfold gRoutes
  rw [eE, eE']
  split
  · exact h2
  · have F : ∀ k i : Nat, k < 22 → ¬ (k = 0 ∧ i = 35) → gRouteL o 102 a k i = a k i := fun k i w1 w2 => gRouteL_k o 102 a k i (by omega) (by omega) (by omega) w2
    refine MI_rep (S := S) ((F 4 1 (by omega) (by omega)).trans e) hS (by unfold lgN; rw [F 4 0 (by omega) (by omega)]; exact hl) (by decide) ho ⟨E, by omega, rfl⟩ ⟨E' - E, by omega, rfl⟩ (fun _ => ⟨E, E' - E, rfl, rfl, by omega, fun i q1 q2 => h4 i q1 (by omega), fun n f' t' n1 n2 hF => ?_⟩) (fun c => by omega) (fun c => by omega) h2
    exact (isF_K h.2.2.2.2.2.2.2.2.1 y4 n1 (by rw [e, tnI (by omega)]; exact n2) (isF_c (F 11 _ (by omega) (by omega)) (F 14 _ (by omega) (by omega)) (F 16 _ (by omega) (by omega)) (F 17 _ (by omega) (by omega)) hF)).1
