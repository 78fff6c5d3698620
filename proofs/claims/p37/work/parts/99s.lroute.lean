/-! route -/
variable {Hh : Nat → Nat}
theorem rt_94 {k19 : AS → Int32 → Int32 → Int32 → Option (AS × Int32)} {w o q E D I pr sz : Nat} {F : Int32} {b : AS} (ho : o < 10) (hq : q < 6) (hE : E < 60) (hD : D < 256) (hI : I ≤ 100) (hp : pr ≤ 100) (hz : sz ≤ 200) (hb : b 14 q = nI (sz + 256 * pr)) (h19 : b 1 19 = nI E) (h20 : b 1 20 = nI D) : b_L_route_94 k19 w b (nI o) F (nI q) (nI I) = (f_L_best w (trB b o q E (nL (ecode o (q / 2) D I pr pr 0 0 0 0)) (nI I)) (nI o)).bind (fun v => k19 (trB b o q E (nL (ecode o (q / 2) D I pr pr 0 0 0 0)) (nI I)) (nI o) F v) := by
  have e2 : nI q / (2 : Int32) = nI (q / 2) := pk_div (by omega) (by decide) (by decide)
  have e10 : (10 : Int32) + nI o = nI (10 + o) := nI_add 10 o
  have hc := e_code (o := o) (q := q / 2) (dy := D) (I := I) (pr := pr) (by omega) (by omega) (by omega) (by omega) (by omega)
  have w19 : ∀ V : Int64, wLg b 13 E V 1 19 = nI E := fun V => (wLg_n _ _ _ _ (by decide) _).trans h19
  have w10 : ∀ (V : Int64) (v : Int32) i, up2 (wLg b 13 E V) 1 19 v 10 i = b 10 i := fun V v i => (up2_n _ _ (by omega)).trans (wLg_n _ _ _ _ (by decide) _)
  have w14 : ∀ (V : Int64) (v u : Int32) i j, up2 (up2 (wLg b 13 E V) 1 19 v) 10 j u 14 i = b 14 i := fun V v u i j => (up2_n _ _ (by omega)).trans ((up2_n _ _ (by omega)).trans (wLg_n _ _ _ _ (by decide) _))
  unfold trB
  simp only [b_L_route_94, yl, ixn (show q < 6 by omega) (show 6 < 2 ^ 31 by decide), ixn (show 10 + o < 20 by omega) (show 20 < 2 ^ 31 by decide), ixn (show E < 60 by omega) (show 60 < 2 ^ 31 by decide), e10, e2, show ixB (19 : Int32) 22 = true from rfl, show ixB (20 : Int32) 22 = true from rfl, cond_true, show (19 : Int32).toNatClampNeg = 19 from rfl, show (20 : Int32).toNatClampNeg = 20 from rfl, nI_clamp (show q < 2 ^ 31 by omega), nI_clamp (show 10 + o < 2 ^ 31 by omega), nI_clamp (show E < 2 ^ 31 by omega), h19, h20, hb, (tq_bits hp hz).2, hc, w19, w10, w14, show nI E + (1 : Int32) = nI (E + 1) from nI_add E 1]
theorem LR_O {b a : AS} (h : LR Hh b a) : ∃ O : Nat, a 0 22 = nI O ∧ O ≤ 10 := by
  obtain ⟨K, e, hK, -⟩ := h.2.2.2.2.2.2.1
  exact ⟨K, e, hK⟩
theorem LR_E {b a : AS} (h : LR Hh b a) : ∃ E : Nat, a 0 35 = nI E ∧ E ≤ 60 := by
  obtain ⟨K, e, hK, -⟩ := h.2.2.2.2.2.2.2.1
  exact ⟨K, e, hK⟩
/-- the house's book -/
theorem LR_book {K O E R o : Nat} {b a : AS} (h : LR Hh b a) (hM : MI K O E R a) (ho : o < 10) : ∃ z d u : Nat, z ≤ 100 ∧ d + u ≤ z ∧ a 26 (40 + o) = nI z ∧ a 27 (40 + o) = nI d ∧ a 28 (40 + o) = nI u ∧ lft a (40 + o) = nI (z - d - u) := by
  obtain ⟨z, d, u, g1, g2, g3, g4, g5, -, -⟩ := hM.2.1 o (by omega)
  obtain ⟨-, -, -, -, P, Z, h5, h6, h7, h8⟩ := h.2.2.2.2.2.1 1 o (by decide) ho
  have e : z = Z := (nI_eq (by omega) (by omega)).mp (g3.symm.trans h8)
  exact ⟨z, d, u, by omega, g2, g3, g4, g5, lft_n g2 g3 g4 g5⟩
theorem lk_routeL {w o d O K R : Nat} {F : Int32} (hw : 100 < w) (hO : O ≤ 10) (ho : o < O) (hd : d < 2) : ∀ (m k E : Nat) (b a : AS), LR Hh b a → MI K O E R a → a 24 (40 + o) ≠ nI 0 → a 23 o = nI d → E + phi a ≤ 60 → phi a < m → phi a < k → ∃ b' E', l_L_route_19 w m b (nI o) F (qI d (gBest a o)) = b_L_route_203 w b' (nI o) F ∧ LR Hh b' (gRouteL o k a) ∧ MI K O E' R (gRouteL o k a) ∧ E ≤ E' ∧ E' + phi (gRouteL o k a) ≤ 60 := by
  intro m
  induction m with
  | zero => intro k E b a _ _ _ _ _ h; omega
  | succ m ih =>
    intro k E b a h hM h24 h23 hphi hm hk
    obtain ⟨k, rfl⟩ : ∃ k', k = k' + 1 := ⟨k - 1, by omega⟩
    have hE : E ≤ 60 := by omega
    have e35 : a 0 35 = nI E := hM.1.2.2.1
    have h19 : b 1 19 = nI E := h.2.1.2.2.2.1.trans e35
    have ho10 : o < 10 := by omega
    obtain ⟨z, dn, u, z1, z2, z3, z4, z5, zL⟩ := LR_book h hM ho10
    have e10 : (10 : Int32) + nI o = nI (10 * 1 + o) := nI_add 10 o
    have hrest : f_L_rest w b ((10 : Int32) + nI o) = some (nI (z - dn - u)) := by rw [e10, lk_rest h (by decide) ho10]; exact congrArg some zL
    have hend : l_L_route_19 w (m + 1) b (nI o) F (qI d (gBest a o)) = b_L_route_203 w b (nI o) F → gRouteL o (k + 1) a = a → ∃ b' E', l_L_route_19 w (m + 1) b (nI o) F (qI d (gBest a o)) = b_L_route_203 w b' (nI o) F ∧ LR Hh b' (gRouteL o (k + 1) a) ∧ MI K O E' R (gRouteL o (k + 1) a) ∧ E ≤ E' ∧ E' + phi (gRouteL o (k + 1) a) ≤ 60 := fun g1 g2 => ⟨b, E, g1, by rw [g2]; exact h, by rw [g2]; exact hM, Nat.le_refl _, by rw [g2]; exact hphi⟩
    have hle := gBest_le a o
    by_cases c1 : gBest a o = 0
    · refine hend ?_ (by unfold gRouteL; rw [if_pos (Or.inl c1)])
      show b_L_route_19 _ w b (nI o) F _ = _
      rw [c1]
      unfold b_L_route_19
      rw [if_pos (show qI d 0 < (0 : Int32) from by unfold qI; rw [if_pos rfl]; decide)]
    · have hq6 : 2 * (gBest a o - 1) + d < 6 := by omega
      have hqd : qI d (gBest a o) = nI (2 * (gBest a o - 1) + d) := if_neg c1
      have hpos := (gBest_pos (a := a) (o := o)).resolve_left c1
      rw [h23, tnI (show d < 2 ^ 31 by omega)] at hpos
      obtain ⟨pr, sz, p1, p2, p3, p4, p5⟩ := h.2.2.2.2.2.2.2.2 _ hq6
      have tq := tq_bits p1 p2
      generalize hqq : 2 * (gBest a o - 1) + d = q at *
      have hneg : ¬ nI q < (0 : Int32) := fun e => by have := (nI_ltI (a := q) (b := 0) (by omega) (by decide)).mp e; omega
      by_cases c2 : z - dn - u = 0
      · refine hend ?_ (by unfold gRouteL; rw [if_pos (Or.inr (Or.inl (by rw [zL, c2]; decide)))])
        show b_L_route_19 _ w b (nI o) F _ = _
        rw [hqd]
        unfold b_L_route_19
        rw [if_neg hneg, hrest, c2]
        rfl
      · have hL0 : ¬ lft a (40 + o) = nI 0 := by rw [zL, nI_eq (by omega) (by decide)]; exact c2
        have hZ0 : ¬ a 34 q = nI 0 := fun e => hpos (by rw [e]; decide)
        obtain ⟨pt, pp⟩ := phi_trade ho10 hq6 h24 hL0 hZ0
        have hE58 : E ≤ 58 := by omega
        obtain ⟨I, eI, iL, iZ⟩ := its_n (o := o) (q := q) (L := z - dn - u) (Z := sz) (by omega) (by omega) zL p4
        obtain ⟨-, D, eD, hD⟩ := h.1
        have h20 : b 1 20 = nI D := h.2.1.2.2.2.2.1.trans eD
        obtain ⟨mt1, mt2, mt3, mt4⟩ := MI_trade (o := o) (q := q) ho hq6 (by omega) h24 hM
        have hm6 := hM.2.2.2.2.2.1 E (Nat.le_refl _) (by omega)
        have hLR := lr_trade (I := I) h ho10 hq6 e35 (by omega) eD hD (by omega) iZ p1 p2 p3 p4 p5 ⟨hm6.2.2.2.1, hm6.2.2.2.2.1, hm6.2.2.2.2.2.2, hm6.2.2.2.2.2.1⟩
        rw [← eI] at hLR
        have n24 : gTrade a o q (itsOf a o q) 24 (40 + o) ≠ nI 0 := by rw [gTrade_k _ _ _ _ _ _ (by decide) (by decide) (by decide) (by omega)]; exact h24
        have n23 : gTrade a o q (itsOf a o q) 23 o = nI d := (gTrade_k _ _ _ _ _ _ (by decide) (by decide) (by decide) (by omega)).trans h23
        have hbest := lk_best hLR hw (o := o) (d := d) (by rw [gTrade_k _ _ _ _ _ _ (by decide) (by decide) (by decide) (by decide), hM.1.1, tnI (by omega)]; exact ho) n23 hd
        obtain ⟨b', E', i1, i2, i3, i4, i5⟩ := ih k (E + 1) _ _ hLR mt1 n24 n23 (by omega) (by omega) (by omega)
        have hg : gRouteL o (k + 1) a = gRouteL o k (gTrade a o q (itsOf a o q)) := by
          show (if _ then _ else _) = _
          rw [h23, tnI (show d < 2 ^ 31 by omega), hqq, if_neg (fun hh => by
            rcases hh with hh | hh | hh
            · exact c1 hh
            · rw [zL] at hh; have := (nI_leI (a := z - dn - u) (b := 0) (by omega) (by decide)).mp hh; omega
            · rw [e35, tnI (by omega)] at hh; omega)]
        rw [hg]
        refine ⟨b', E', ?_, i2, i3, by omega, i5⟩
        rw [← i1]
        show b_L_route_19 (l_L_route_19 w m) w b (nI o) F _ = _
        rw [hqd]
        have n1 : ¬ nI (z - dn - u) ≤ (0 : Int32) := fun e => by have := (nI_leI (a := z - dn - u) (b := 0) (by omega) (by decide)).mp e; omega
        have n2 : ¬ (60 : Int32) ≤ nI E := fun e => by have := (nI_leI (a := 60) (b := E) (by decide) (by omega)).mp e; omega
        have r94 : b_L_route_94 (l_L_route_19 w m) w b (nI o) F (nI q) (nI I) = l_L_route_19 w m (trB b o q E (nL (ecode o (q / 2) D I pr pr 0 0 0 0)) (itsOf a o q)) (nI o) F (qI d (gBest (gTrade a o q (itsOf a o q)) o)) := by
          rw [rt_94 ho10 hq6 (by omega) hD (by omega) p1 p2 p3 h19 h20, ← eI, hbest]
          rfl
        unfold b_L_route_19
        rw [if_neg hneg, hrest]
        simp only [Option.bind_some, if_neg n1, show ixB (19 : Int32) 22 = true from rfl, cond_true, show (19 : Int32).toNatClampNeg = 19 from rfl, h19, if_neg n2, ixn (show q < 6 by omega) (show 6 < 2 ^ 31 by decide), nI_clamp (show q < 2 ^ 31 by omega), p3, tq.1]
        have eI2 : nI I = if nI sz ≤ nI (z - dn - u) then nI sz else nI (z - dn - u) := by rw [← eI, ← p4, ← zL]
        by_cases c : nI sz ≤ nI (z - dn - u)
        · rw [if_pos c] at eI2 ⊢
          rw [← eI2, r94]
        · rw [if_neg c] at eI2 ⊢
          rw [← eI2, r94]
theorem phi_snd (a : AS) (s : Nat) (kd o1 o2 o3 o4 : Int32) : phi (gSends a s kd o1 o2 o3 o4) = phi a := by
  have e : ∀ k, 22 ≤ k → gSends a s kd o1 o2 o3 o4 k = a k := fun k h => gSends_r a s kd o1 o2 o3 o4 k (by omega) (by omega) (by omega) (by omega) (by omega)
  unfold phi hasQ hasL lft
  rw [e 34 (by decide), e 24 (by decide), e 26 (by decide), e 27 (by decide), e 28 (by decide)]
/-- route: on both sides -/
theorem lk_route {w o O K E R : Nat} {b a : AS} (h : LR Hh b a) (hM : MI K O E R a) (hw : 100 < w) (ho : o < O) (h24 : a 24 (40 + o) ≠ nI 0) (hu : a 0 2 = nI 0 ∨ a 0 2 = nI 1) (hN : tn (a 4 1) + 1 ≤ 63) (hc : tn (a 20 0) + 1 ≤ 240) (hphi : E + phi a ≤ 60) : ∃ b', f_L_route w b (nI o) = some (b', 0) ∧ LR Hh b' (gRoutes a o) ∧ tn (gRoutes a o 0 35) + phi (gRoutes a o) ≤ 60 := by
  obtain ⟨O', eO, hO⟩ := LR_O h
  have eOO : O' = O := (nI_eq (by omega) (by have := hM.1.2.1; omega)).mp (eO.symm.trans hM.1.1)
  subst eOO
  obtain ⟨d, hd, e23⟩ := hM.2.2.2.1.1 o ho
  have e35 : a 0 35 = nI E := hM.1.2.2.1
  have h19 : b 1 19 = nI E := h.2.1.2.2.2.1.trans e35
  have hb := lk_best h hw (o := o) (d := d) (by rw [hM.1.1, tnI (by omega)]; exact ho) e23 hd
  have hp := phi_le a
  obtain ⟨b', E', i1, i2, i3, i4, i5⟩ := lk_routeL (w := w) (F := nI E) hw hO ho hd w 102 E b a h hM h24 e23 hphi (by omega) (by omega)
  have e35' : gRouteL o 102 a 0 35 = nI E' := i3.1.2.2.1
  have h19' : b' 1 19 = nI E' := i2.2.1.2.2.2.1.trans e35'
  have hf : f_L_route w b (nI o) = b_L_route_203 w b' (nI o) (nI E) := by
    unfold f_L_route
    simp only [show ixB (19 : Int32) 22 = true from rfl, cond_true, yl, show (19 : Int32).toNatClampNeg = 19 from rfl, h19, hb, Option.bind_some]
    exact i1
  have eG : gRoutes a o = if E' ≤ E then gRouteL o 102 a else gRep (gRouteL o 102 a) (nI 1) o (nI E) (nI (E' - E)) := by
    unfold gRoutes
    rw [e35, e35', tnI (show E < 2 ^ 31 by omega), tnI (show E' < 2 ^ 31 by omega)]
  rw [eG, hf]
  unfold b_L_route_203
  simp only [show ixB (19 : Int32) 22 = true from rfl, cond_true, show (19 : Int32).toNatClampNeg = 19 from rfl, h19']
  by_cases c : E' ≤ E
  · rw [if_pos c, if_pos ((nI_leI (by omega) (by omega)).mpr c)]
    exact ⟨b', rfl, i2, by rw [e35', tnI (by omega)]; exact i5⟩
  · rw [if_neg c, if_neg (fun e => c ((nI_leI (by omega) (by omega)).mp e)), pk_sub (show E ≤ E' by omega)]
    have g02 : gRouteL o 102 a 0 2 = a 0 2 := gRouteL_k _ _ _ _ _ (by decide) (by decide) (by decide) (by decide)
    have g4 : gRouteL o 102 a 4 1 = a 4 1 := gRouteL_k _ _ _ _ _ (by decide) (by decide) (by decide) (by decide)
    have g20 : gRouteL o 102 a 20 0 = a 20 0 := gRouteL_k _ _ _ _ _ (by decide) (by decide) (by decide) (by decide)
    obtain ⟨b2, s1, s2⟩ := lk_send (w := w) (s := 1) (kd := 8) (o1 := 1) (o2 := o) (o3 := E) (o4 := E' - E) i2 (by decide) (by rw [g02]; exact hu) (by rw [g4]; exact hN) (by show tn (gRouteL o 102 a 20 0) + 1 ≤ 240; rw [g20]; exact hc) (by decide) (by decide) (by omega) (by omega) (by omega)
    refine ⟨b2, ?_, s2, ?_⟩
    · have s1' : f_L_send w b' (1 : Int32) (8 : Int32) (1 : Int32) (nI o) (nI E) (nI (E' - E)) = some (b2, 0) := s1
      rw [s1']
      rfl
    · have : gRep (gRouteL o 102 a) (nI 1) o (nI E) (nI (E' - E)) 0 35 = nI E' := (gSends_k _ _ _ _ _ _ _ _ _ (by decide) (by decide) (by decide) (by decide) (by decide)).trans e35'
      rw [this, tnI (by omega), show phi (gRep (gRouteL o 102 a) (nI 1) o (nI E) (nI (E' - E))) = phi (gRouteL o 102 a) from phi_snd _ _ _ _ _ _ _]
      exact i5
