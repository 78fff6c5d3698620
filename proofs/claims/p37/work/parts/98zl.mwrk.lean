/-! The house works off, in what is kept. -/
theorem MI_hb {K O E R o z' : Nat} {a b : AS} (ho : o < O) (F : ∀ k i : Nat, ¬ ((k = 24 ∨ k = 25 ∨ k = 26) ∧ i = 40 + o) → ¬ (k = 31 ∧ i = o) → ¬ (k = 0 ∧ i = 32) → b k i = a k i) (n24 : b 24 (40 + o) ≠ nI 0) (n26 : b 26 (40 + o) = nI z') (hz : z' ≤ 10000) (hdu : ∀ d u : Nat, a 27 (40 + o) = nI d → a 28 (40 + o) = nI u → d + u ≤ 10000 → (a 24 (40 + o) = nI 0 → d = 0 ∧ u = 0) → d + u ≤ z') (n31 : b 31 o = nI R) (n32 : b 0 32 = nI (R + 1)) (hR : mm4 a K (R + 1)) (h : MI K O E R a) : MI K O E (R + 1) b := by
  obtain ⟨g1, g2, g3, g4, g5, g6, g7, g8, g9, g10, g11, g12⟩ := h
  obtain ⟨y1, y2, y3, y4, y5⟩ := id g1
  have eO : tn (a 0 22) = O := by rw [y1, tnI (by omega)]
  have hm : mrow a b := ⟨fun s _ => F _ _ (by omega) (by omega) (by omega), fun k i hk => F _ _ (by omega) (by omega) (by omega)⟩
  refine ⟨⟨(F _ _ (by omega) (by omega) (by omega)).trans y1, y2, (F _ _ (by omega) (by omega) (by omega)).trans y3, y4, n32⟩, fun o' ho' => ?_, mb3_c (fun o' _ => F _ _ (by omega) (by omega) (by omega)) (fun e _ => ⟨F _ _ (by omega) (by omega) (by omega), F _ _ (by omega) (by omega) (by omega), F _ _ (by omega) (by omega) (by omega), F _ _ (by omega) (by omega) (by omega)⟩) g3, ⟨fun o' ho' => ?_, fun o' ho' c24 => ?_⟩, fun e he => exK_c ⟨F _ _ (by omega) (by omega) (by omega), F _ _ (by omega) (by omega) (by omega), F _ _ (by omega) (by omega) (by omega), F _ _ (by omega) (by omega) (by omega), F _ _ (by omega) (by omega) (by omega), F _ _ (by omega) (by omega) (by omega), F _ _ (by omega) (by omega) (by omega), F _ _ (by omega) (by omega) (by omega)⟩ (fun o' ho' c => ?_) (g5 e he), mb6_c (fun e h1 h2 => ⟨F _ _ (by omega) (by omega) (by omega), F _ _ (by omega) (by omega) (by omega), F _ _ (by omega) (by omega) (by omega), F _ _ (by omega) (by omega) (by omega), F _ _ (by omega) (by omega) (by omega), F _ _ (by omega) (by omega) (by omega), F _ _ (by omega) (by omega) (by omega)⟩) g6, mb7_c (fun q _ => ⟨F _ _ (by omega) (by omega) (by omega), F _ _ (by omega) (by omega) (by omega)⟩) g7, frO_c (F _ _ (by omega) (by omega) (by omega)) (fun o' h1 h2 => ?_) g8, mm1_c (Nat.le_refl _) (Nat.le_refl _) hm (fun e _ => ⟨F _ _ (by omega) (by omega) (by omega), fun c => by rw [F _ _ (by omega) (by omega) (by omega)]; exact c⟩) g9, mm2_c hm (by rw [F 5 0 (by omega) (by omega) (by omega)]; exact Nat.le_refl _) (fun e _ => ⟨fun c => by rw [F _ _ (by omega) (by omega) (by omega)]; exact c, fun c => by rw [F _ _ (by omega) (by omega) (by omega)]; exact c⟩) g10, mm3_c hm g11, mm4_c hm (by rw [F 5 1 (by omega) (by omega) (by omega)]; exact Nat.le_refl _) hR⟩
  · have hs : hSm b o' E = hSm a o' E := hSm_c E (fun e _ => ⟨F _ _ (by omega) (by omega) (by omega), F _ _ (by omega) (by omega) (by omega), F _ _ (by omega) (by omega) (by omega)⟩)
    obtain ⟨z, d, u, x1, x2, x3, x4, x5, x6, x7⟩ := g2 o' ho'
    by_cases c : o' = o
    · subst c
      exact ⟨z', d, u, hz, hdu d u x4 x5 (by omega) x7, n26, (F _ _ (by omega) (by omega) (by omega)).trans x4, (F _ _ (by omega) (by omega) (by omega)).trans x5, x6.trans hs.symm, fun c => absurd c n24⟩
    · exact ⟨z, d, u, x1, x2, (F _ _ (by omega) (by omega) (by omega)).trans x3, (F _ _ (by omega) (by omega) (by omega)).trans x4, (F _ _ (by omega) (by omega) (by omega)).trans x5, x6.trans hs.symm, fun c => x7 ((F _ _ (by omega) (by omega) (by omega)).symm.trans c)⟩
  · obtain ⟨d, q1, q2⟩ := g4.1 o' ho'
    exact ⟨d, q1, (F _ _ (by omega) (by omega) (by omega)).trans q2⟩
  · by_cases c : o' = o
    · subst c
      exact ⟨R, by omega, n31⟩
    · rw [F 24 _ (by omega) (by omega) (by omega)] at c24
      obtain ⟨r, q1, q2⟩ := g4.2 o' ho' c24
      exact ⟨r, by omega, (F _ _ (by omega) (by omega) (by omega)).trans q2⟩
  · by_cases cc : o' = o
    · subst cc
      exact n24
    · rw [F 24 _ (by omega) (by omega) (by omega)]
      exact c
  · rw [eO] at h1
    exact ⟨F _ _ (by omega) (by omega) (by omega), F _ _ (by omega) (by omega) (by omega), F _ _ (by omega) (by omega) (by omega), F _ _ (by omega) (by omega) (by omega), F _ _ (by omega) (by omega) (by omega), F _ _ (by omega) (by omega) (by omega), F _ _ (by omega) (by omega) (by omega), F _ _ (by omega) (by omega) (by omega), F _ _ (by omega) (by omega) (by omega), F _ _ (by omega) (by omega) (by omega)⟩
/-- what is done and out at the house changes -/
theorem MI_hd {K O E R o : Nat} {a b : AS} (ho : o < O) (F : ∀ k i : Nat, ¬ ((k = 27 ∨ k = 28) ∧ i = 40 + o) → ¬ (k = 43 ∧ 100 ≤ i) → b k i = a k i) (h24 : a 24 (40 + o) ≠ nI 0) (hh : ∀ z d u : Nat, z ≤ 10000 → d + u ≤ z → a 26 (40 + o) = nI z → a 27 (40 + o) = nI d → a 28 (40 + o) = nI u → d = hSm a o E → ∃ d' u' : Nat, d' + u' ≤ z ∧ b 27 (40 + o) = nI d' ∧ b 28 (40 + o) = nI u' ∧ d' = hSm b o E) (hs : ∀ o' : Nat, o' < 40 → o' ≠ o → hSm b o' E = hSm a o' E) (h43 : ∀ e, e < E → a 43 (100 + e) ≠ nI 0 → b 43 (100 + e) ≠ nI 0) (h43' : ∀ e, E ≤ e → b 43 (100 + e) = a 43 (100 + e)) (h : MI K O E R a) : MI K O E R b := by
  obtain ⟨g1, g2, g3, g4, g5, g6, g7, g8, g9, g10, g11, g12⟩ := h
  obtain ⟨y1, y2, y3, y4, y5⟩ := id g1
  have eO : tn (a 0 22) = O := by rw [y1, tnI (by omega)]
  have hm : mrow a b := ⟨fun s _ => F _ _ (by omega) (by omega), fun k i hk => F _ _ (by omega) (by omega)⟩
  refine ⟨⟨(F _ _ (by omega) (by omega)).trans y1, y2, (F _ _ (by omega) (by omega)).trans y3, y4, (F _ _ (by omega) (by omega)).trans y5⟩, fun o' ho' => ?_, mb3_c (fun o' _ => F _ _ (by omega) (by omega)) (fun e _ => ⟨F _ _ (by omega) (by omega), F _ _ (by omega) (by omega), F _ _ (by omega) (by omega), F _ _ (by omega) (by omega)⟩) g3, mb4_c (fun o' _ => ⟨F _ _ (by omega) (by omega), F _ _ (by omega) (by omega), F _ _ (by omega) (by omega)⟩) y2 g4, fun e he => ?_, mb6_c (fun e h1 h2 => ⟨F _ _ (by omega) (by omega), F _ _ (by omega) (by omega), F _ _ (by omega) (by omega), F _ _ (by omega) (by omega), F _ _ (by omega) (by omega), F _ _ (by omega) (by omega), h43' e h1⟩) g6, mb7_c (fun q _ => ⟨F _ _ (by omega) (by omega), F _ _ (by omega) (by omega)⟩) g7, frO_c (F _ _ (by omega) (by omega)) (fun o' h1 h2 => ?_) g8, mm1_c (Nat.le_refl _) (Nat.le_refl _) hm (fun e he => ⟨F _ _ (by omega) (by omega), h43 e he⟩) g9, mm2_c hm (by rw [F 5 0 (by omega) (by omega)]; exact Nat.le_refl _) (fun e _ => ⟨fun c => by rw [F _ _ (by omega) (by omega)]; exact c, fun c => by rw [F _ _ (by omega) (by omega)]; exact c⟩) g10, mm3_c hm g11, mm4_c hm (by rw [F 5 1 (by omega) (by omega)]; exact Nat.le_refl _) g12⟩
  · obtain ⟨z, d, u, x1, x2, x3, x4, x5, x6, x7⟩ := g2 o' ho'
    by_cases c : o' = o
    · subst c
      obtain ⟨d', u', w1, w2, w3, w4⟩ := hh z d u x1 x2 x3 x4 x5 x6
      exact ⟨z, d', u', x1, w1, (F _ _ (by omega) (by omega)).trans x3, w2, w3, w4, fun c => absurd ((F _ _ (by omega) (by omega)).symm.trans c) h24⟩
    · exact ⟨z, d, u, x1, x2, (F _ _ (by omega) (by omega)).trans x3, (F _ _ (by omega) (by omega)).trans x4, (F _ _ (by omega) (by omega)).trans x5, x6.trans (hs o' ho' c).symm, fun c => x7 ((F _ _ (by omega) (by omega)).symm.trans c)⟩
  · obtain ⟨⟨o1, q1, q2, q3⟩, ⟨v, v1, v2⟩, ⟨z, z1, z2⟩, ⟨p, p1, p2⟩, t1, t2, t3⟩ := g5 e he
    exact ⟨⟨o1, q1, (F _ _ (by omega) (by omega)).trans q2, by rw [F _ _ (by omega) (by omega)]; exact q3⟩, ⟨v, v1, (F _ _ (by omega) (by omega)).trans v2⟩, ⟨z, z1, (F _ _ (by omega) (by omega)).trans z2⟩, ⟨p, p1, (F _ _ (by omega) (by omega)).trans p2⟩, by rw [F _ _ (by omega) (by omega)]; exact t1, by rw [F 42 _ (by omega) (by omega), F 43 _ (by omega) (by omega)]; exact t2, fun c => h43 e he (t3 (by rw [F 43 _ (by omega) (by omega)] at c; exact c))⟩
  · rw [eO] at h1
    exact ⟨F _ _ (by omega) (by omega), F _ _ (by omega) (by omega), F _ _ (by omega) (by omega), F _ _ (by omega) (by omega), F _ _ (by omega) (by omega), F _ _ (by omega) (by omega), F _ _ (by omega) (by omega), F _ _ (by omega) (by omega), F _ _ (by omega) (by omega), F _ _ (by omega) (by omega)⟩
theorem gRep_4 {a : AS} {σ x y : Int32} {o S : Nat} (e : a 4 1 = nI S) (hS : S < 2 ^ 30) : gRep a σ o x y 4 1 = nI (S + 1) ∧ lgN (gRep a σ o x y) 0 = lgN a 0 :=
  ⟨snd_4 e hS, snd_lgo (by decide)⟩
theorem MI_work {K O E R q o kd S : Nat} {a : AS} (h11 : a 11 q = nI kd) (hk : kd = 5 ∨ kd = 6 ∨ kd = 7) (hv : vS a q) (h14 : a 14 q = nI o) (ho : o < O) (e : a 4 1 = nI S) (hS : S + 2 ≤ 8190) (hl : lgN a 0 ≤ 8190) (hR : mm4 a K (R + 1)) (h : MI K O E R a) : ∃ E' R' : Nat, MI K O E' R' (gWork a q) := by
  obtain ⟨y1, y2, y3, y4, y5⟩ := id h.1
  have eo : tn (a 14 q) = o := by rw [h14, tnI (by omega)]
  obtain ⟨z, d, u, x1, x2, x3, x4, x5, x6, x7⟩ := h.2.1 o (by omega)
  have hlft := lft_n x2 x3 x4 x5
  have z0 : ∃ v : Nat, v ≤ 10000 ∧ nI 0 = nI v := ⟨0, by omega, rfl⟩
  have rr : ∀ (b : AS) (E1 R1 σ : Nat) (x y : Int32), σ = 0 ∨ σ = 3 → b 4 1 = nI S → lgN b 0 ≤ 8190 → b 24 (40 + o) ≠ nI 0 → (∃ v : Nat, v ≤ 10000 ∧ x = nI v) → (∃ v : Nat, v ≤ 10000 ∧ y = nI v) → MI K O E1 R1 b → ∃ E' R' : Nat, MI K O E' R' (gRoutes (gRep b (nI σ) o x y) o) := fun b E1 R1 σ x y hσ e' hl' h24 hx hy hb => by
    have t := MI_rep e' (by omega) hl' (show σ ≤ 6 by omega) ho hx hy (fun c => by omega) (fun c => by omega) (fun c => by omega) hb
    obtain ⟨e4, el⟩ := gRep_4 (σ := nI σ) (x := x) (y := y) (o := o) e' (by omega)
    obtain ⟨E', t1, t2⟩ := MI_routes (S := S + 1) ho (by rw [gRep_r _ _ _ _ _ 24 (by omega) (by omega) (by omega) (by omega) (by omega)]; exact h24) e4 (by omega) (by rw [el]; exact hl') t
    exact ⟨E', R1, t2⟩
  unfold gWork
  rw [eo, h11]
  by_cases k5 : kd = 5
  · rw [if_pos (by rw [k5])]
    by_cases c24 : a 24 (40 + o) = nI 0
    · rw [if_pos c24]
      obtain ⟨p, p1, p2⟩ := hv 16 (by omega) (by omega)
      obtain ⟨z', q1, q2⟩ := hv 17 (by omega) (by omega)
      generalize hb : gBehind (up2 (up2 (up2 a 24 (40 + o) (nI 1)) 25 (40 + o) (a 16 q)) 26 (40 + o) (a 17 q)) o = b
      have F : ∀ k i : Nat, ¬ ((k = 24 ∨ k = 25 ∨ k = 26) ∧ i = 40 + o) → ¬ (k = 31 ∧ i = o) → ¬ (k = 0 ∧ i = 32) → b k i = a k i := fun k i w1 w2 w3 => by
        rw [← hb]
        unfold gBehind
        rw [up2_n _ _ w3, up2_n _ _ w2, up2_n _ _ (by omega), up2_n _ _ (by omega), up2_n _ _ (by omega)]
      have n24 : b 24 (40 + o) ≠ nI 0 := by
        rw [← hb]
        unfold gBehind
        rw [up2_n _ _ (by omega), up2_n _ _ (by omega), up2_n _ _ (by omega), up2_n _ _ (by omega), up2_s]
        decide
      have n26 : b 26 (40 + o) = nI z' := by
        rw [← hb]
        unfold gBehind
        rw [up2_n _ _ (by omega), up2_n _ _ (by omega), up2_s, q2]
      have n31 : b 31 o = nI R := by
        rw [← hb]
        unfold gBehind
        rw [up2_n _ _ (by omega), up2_s, up2_n _ _ (by omega), up2_n _ _ (by omega), up2_n _ _ (by omega), y5]
      have n32 : b 0 32 = nI (R + 1) := by
        rw [← hb]
        unfold gBehind
        rw [up2_s, up2_n _ _ (by omega), up2_n _ _ (by omega), up2_n _ _ (by omega), y5]
        exact nI_add R 1
      have hb1 := MI_hb ho F n24 n26 q1 (fun d' u' _ _ _ hh => by have := hh c24; omega) n31 n32 hR h
      exact rr b E (R + 1) 0 (nI 0) (nI 0) (Or.inl rfl) ((F _ _ (by omega) (by omega) (by omega)).trans e) (by unfold lgN; rw [F _ _ (by omega) (by omega) (by omega)]; exact hl) n24 z0 z0 hb1
    · rw [if_neg c24]
      exact ⟨E, R, h⟩
  rw [if_neg (fun hh => k5 ((nI_eq (by omega) (by omega)).mp hh))]
  by_cases c : a 24 (40 + o) = nI 0 ∨ lft a (40 + o) = nI 0 ∨ nI kd = nI 7 ∧ ¬ a 27 (40 + o) + a 28 (40 + o) < a 16 q
  · rw [if_pos c]
    exact ⟨E, R, MI_rep e (by omega) hl (by omega) ho z0 z0 (fun c => by omega) (fun c => by omega) (fun c => by omega) h⟩
  rw [if_neg c]
  have c24 : a 24 (40 + o) ≠ nI 0 := fun hh => c (Or.inl hh)
  by_cases k6 : kd = 6
  · rw [if_pos (by rw [k6])]
    refine ⟨E, R, ?_⟩
    have n28 : a 28 (40 + o) + lft a (40 + o) = nI (u + (z - d - u)) := by rw [hlft, x5, nI_add]
    have F : ∀ k i : Nat, ¬ ((k = 27 ∨ k = 28) ∧ i = 40 + o) → ¬ (k = 43 ∧ 100 ≤ i) → up2 a 28 (40 + o) (a 28 (40 + o) + lft a (40 + o)) k i = a k i := fun k i w1 w2 => up2_n _ _ (by omega)
    have hs : ∀ o', hSm (up2 a 28 (40 + o) (a 28 (40 + o) + lft a (40 + o))) o' E = hSm a o' E := fun o' => hSm_c E (fun e _ => ⟨up2_n _ _ (by omega), up2_n _ _ (by omega), up2_n _ _ (by omega)⟩)
    have hb := MI_hd ho F c24 (fun z1 d1 u1 w1 w2 w3 w4 w5 w6 => ?_) (fun o' _ _ => hs o') (fun e _ c => by rw [up2_n _ _ (by omega)]; exact c) (fun e _ => up2_n _ _ (by omega)) h
    · exact MI_rep (S := S) ((up2_n _ _ (by omega)).trans e) (by omega) (by unfold lgN; rw [up2_n _ _ (by omega)]; exact hl) (by omega) ho ⟨z - d - u, by omega, hlft⟩ z0 (fun c => by omega) (fun c => by omega) (fun c => by omega) hb
    · have ez : z1 = z := (nI_eq (by omega) (by omega)).mp (w3.symm.trans x3)
      have ed : d1 = d := (nI_eq (by omega) (by omega)).mp (w4.symm.trans x4)
      exact ⟨d, u + (z - d - u), by omega, by rw [up2_n _ _ (by omega)]; exact x4, by rw [up2_s]; exact n28, by rw [hs]; exact x6⟩
  · rw [if_neg (fun hh => k6 ((nI_eq (by omega) (by omega)).mp hh))]
    have k7 : kd = 7 := by omega
    obtain ⟨p, p1, p2⟩ := hv 15 (by omega) (by omega)
    obtain ⟨z', q1, q2⟩ := hv 16 (by omega) (by omega)
    have hlt : a 27 (40 + o) + a 28 (40 + o) < a 16 q := Classical.byContradiction (fun hh => c (Or.inr (Or.inr ⟨by rw [k7], hh⟩)))
    rw [x4, x5, q2, nI_add] at hlt
    have hlt' := (nI_ltI (by omega) (by omega)).mp hlt
    generalize hb : gBehind (up2 (up2 a 25 (40 + o) (a 15 q)) 26 (40 + o) (a 16 q)) o = b
    have F : ∀ k i : Nat, ¬ ((k = 24 ∨ k = 25 ∨ k = 26) ∧ i = 40 + o) → ¬ (k = 31 ∧ i = o) → ¬ (k = 0 ∧ i = 32) → b k i = a k i := fun k i w1 w2 w3 => by
      rw [← hb]
      unfold gBehind
      rw [up2_n _ _ w3, up2_n _ _ w2, up2_n _ _ (by omega), up2_n _ _ (by omega)]
    have n24 : b 24 (40 + o) ≠ nI 0 := by
      rw [← hb]
      unfold gBehind
      rw [up2_n _ _ (by omega), up2_n _ _ (by omega), up2_n _ _ (by omega), up2_n _ _ (by omega)]
      exact c24
    have n26 : b 26 (40 + o) = nI z' := by
      rw [← hb]
      unfold gBehind
      rw [up2_n _ _ (by omega), up2_n _ _ (by omega), up2_s, q2]
    have n31 : b 31 o = nI R := by
      rw [← hb]
      unfold gBehind
      rw [up2_n _ _ (by omega), up2_s, up2_n _ _ (by omega), up2_n _ _ (by omega), y5]
    have n32 : b 0 32 = nI (R + 1) := by
      rw [← hb]
      unfold gBehind
      rw [up2_s, up2_n _ _ (by omega), up2_n _ _ (by omega), y5]
      exact nI_add R 1
    have hb1 := MI_hb ho F n24 n26 q1 (fun d' u' w1 w2 _ _ => by
      have ed : d' = d := (nI_eq (by omega) (by omega)).mp (w1.symm.trans x4)
      have eu : u' = u := (nI_eq (by omega) (by omega)).mp (w2.symm.trans x5)
      omega) n31 n32 hR h
    exact rr b E (R + 1) 3 (a 15 q) (a 16 q) (Or.inr rfl) ((F _ _ (by omega) (by omega) (by omega)).trans e) (by unfold lgN; rw [F _ _ (by omega) (by omega) (by omega)]; exact hl) n24 ⟨p, p1, p2⟩ ⟨z', q1, q2⟩ hb1
