/-! one -/
variable {Hh Hg : Nat → Nat}
theorem its_bits {x f g : Nat} (hx : x < 64) (hf : f ≤ 64) (hg : g < 2) : nI (x + 64 * f + 8192 * g) &&& (63 : Int32) = nI x ∧ (nI (x + 64 * f + 8192 * g) >>> ((6 : Int32) &&& 31)) &&& (127 : Int32) = nI f ∧ nI (x + 64 * f + 8192 * g) >>> ((13 : Int32) &&& 31) = nI g := by
  refine ⟨?_, ?_, ?_⟩
  · rw [show (63 : Int32) = nI (2 ^ 6 - 1) from rfl, I_and _ 6 (by omega) (by decide)]; congr 1; omega
  · rw [show (6 : Int32) = nI 6 from rfl, I_shr _ 6 (by omega) (by decide), show (127 : Int32) = nI (2 ^ 7 - 1) from rfl, I_and _ 7 (by omega) (by decide)]; congr 1; omega
  · rw [show (13 : Int32) = nI 13 from rfl, I_shr _ 13 (by omega) (by decide)]; congr 1; omega
theorem phi_r {a b : AS} (h : ∀ k, k = 24 ∨ k = 26 ∨ k = 27 ∨ k = 28 ∨ k = 34 → b k = a k) : phi b = phi a := by
  unfold phi hasQ hasL lft
  rw [h 24 (by omega), h 26 (by omega), h 27 (by omega), h 28 (by omega), h 34 (by omega)]
/-- from the message's number on -/
theorem lk_190 {w K O s c : Nat} {n : Nat → Nat} {l0 l1 : Nat} {a0 B b : AS} (hn : sm8 n ≤ 512) (hO : n 4 ≤ 40) (hs : s < 2) (hK : K ≤ 1000) (hw : 100 < w) (h : LR Hh b B) (hz : ∀ t, t < 2 → Hh t = 0) (hS : SIp n (1 + s) 0 l0 l1 B s c 0) (hm : ∃ E R : Nat, MI K O E R B) (ho : oth a0 B s) (h10 : tn (B 10 s) = tn (B 0 1)) (hx : cEn c < 64) (hf : cEf c ≤ 64) (hphi : tn (B 0 35) + phi B ≤ 60) (h4 : tn (B 4 s) + 2 * tn (a0 4 (1 - s)) ≤ 61) (h20 : tn (B 20 (1 - s)) + 2 * tn (a0 4 (1 - s)) ≤ 238) : ∃ b', b_L_one_190 w b (nI s) (nI (cEn c)) (nI (cEf c)) = some (b', 0) ∧ LR Hh b' (gCmC B s (cEn c) (cEf c)) ∧ tn (gCmC B s (cEn c) (cEf c) 0 35) + phi (gCmC B s (cEn c) (cEf c)) ≤ 60 := by
  have hv := hS.1
  obtain ⟨-, ⟨E5, e5, hE5⟩, -⟩ := hv.2.2 s hs
  have eE : tn (B 5 s) = E5 := by rw [e5, tnI (by omega)]
  obtain ⟨x1, x2, x3, x4, x5⟩ := SIp_n hS
  rw [eE] at x1
  have e6 : (6 : Int32) + nI s = nI (6 + s) := nI_add 6 s
  have i22 : ixB (nI (6 + s)) 22 = true := ixn (by omega) (by decide)
  have c6 : (nI (6 + s)).toNatClampNeg = 6 + s := nI_clamp (by omega)
  have q233 : ∀ (b1 : AS) (E1 : Nat), b1 1 (6 + s) = nI E1 → E1 < 2 ^ 31 → b_L_one_233 w b1 (nI s) (nI (cEn c)) (nI (cEf c)) = if E1 < cEn c then b_L_one_258 w b1 (nI s) (nI (cEn c)) (nI (cEf c)) (6 + s) else some (b1, 0) := fun b1 E1 g1 g2 => by
    unfold b_L_one_233
    rw [e6, i22, c6, g1]
    simp only [cond_true]
    by_cases c1 : E1 < cEn c
    · rw [if_pos ((nI_ltI g2 (by omega)).mpr c1), if_pos c1]
      rcases (show s = 0 ∨ s = 1 by omega) with rfl | rfl
      · rw [if_pos (show nI 0 = (0 : Int32) from rfl)]
      · rw [if_neg (show ¬ nI 1 = (0 : Int32) by decide)]
    · rw [if_neg (fun e => c1 ((nI_ltI g2 (by omega)).mp e)), if_neg c1]
  have hb5 : b 1 (6 + s) = nI E5 := (LR_5 h hs).trans e5
  unfold b_L_one_190 gCmC
  rw [e6, i22, c6, hb5, eE]
  simp only [cond_true]
  by_cases c1 : cEn c = E5
  · rw [if_pos (show nI (cEn c) = nI E5 by rw [c1]), if_neg (show ¬ E5 < cEn c by omega), if_pos c1]
    obtain ⟨b1, t1, t2, t3, t4, t5⟩ := lk_take (w := w) hn hO hs hK hw h hz hS hm ho h10 (by rw [eE]; exact c1) hf hphi h4 h20
    obtain ⟨-, ⟨E6, e56, hE6⟩, -⟩ := t5.1.1.1.2.2 s hs
    have hb6 := (LR_5 t2 hs).trans e56
    rw [e56, tnI (by omega)] at t4
    rw [t1, Option.bind_some, q233 b1 E6 hb6 (by omega), if_neg (by omega)]
    exact ⟨b1, rfl, t2, t3⟩
  · rw [if_neg (show ¬ nI (cEn c) = nI E5 from Ieq (by omega) (by omega) c1), if_neg (show ¬ cEn c = E5 from c1), q233 b E5 hb5 (by omega)]
    by_cases c2 : E5 < cEn c
    · rw [if_pos c2, if_pos c2]
      obtain ⟨b', g1, g2⟩ := lk_273 (w := w) h hs hx hf x5 e5 (by omega) (by omega) hv.2.1 (by omega) (by omega)
      refine ⟨b', g1, g2, ?_⟩
      have r1 : phi (gAsk (gHold B s (cEn c) (cEf c)) s) = phi B := by
        have r0 : phi (gHold B s (cEn c) (cEf c)) = phi B := phi_r (fun k hk => by unfold gHold; rw [up2_k _ _ (by omega), up2_k _ _ (by omega)])
        unfold gAsk
        split
        · exact r0
        · rw [phi_snd]
          refine Eq.trans (phi_r (fun k hk => ?_)) r0
          rw [up2_k _ _ (by omega), up2_k _ _ (by omega)]
      have r2 : gAsk (gHold B s (cEn c) (cEf c)) s 0 35 = B 0 35 := by
        have r0 : gHold B s (cEn c) (cEf c) 0 35 = B 0 35 := by unfold gHold; rw [up2_n _ _ (by omega), up2_n _ _ (by omega)]
        unfold gAsk
        split
        · exact r0
        · rw [gSends_k _ _ _ _ _ _ _ _ _ (by decide) (by decide) (by decide) (by decide) (by decide), up2_n _ _ (by omega), up2_n _ _ (by omega)]
          exact r0
      rw [r1, r2]
      exact hphi
    · rw [if_neg c2, if_neg c2]
      exact ⟨b, rfl, h, hphi⟩
/-- one message comes: on both sides -/
theorem lk_one {w K O s : Nat} {n : Nat → Nat} {l0 l1 : Nat} {a b : AS} (hn : sm8 n ≤ 512) (hO : n 4 ≤ 40) (hs : s < 2) (hK : K ≤ 1000) (hw : 1000 < w) (h : LR Hh b a) (hz : ∀ t, t < 2 → Hh t = 0) (hC : CI n l0 l1 K O s a a) (h1 : 1 ≤ tn (a 20 s)) (hphi : tn (a 0 35) + phi a ≤ 60) (h4 : ∀ t, t < 2 → tn (a 4 t) ≤ 19) (h20 : ∀ t, t < 2 → tn (a 20 t) ≤ 90) : ∃ b', f_L_one w b (nI s) = some (b', 0) ∧ LR Hh b' (gCome1 a s) ∧ tn (gCome1 a s 0 35) + phi (gCome1 a s) ≤ 60 := by
  obtain ⟨q, c, H, hq, e19, hH, e20, hc, hk⟩ := h.2.2.1 s hs
  have hc1 : 1 ≤ c := by rw [e20, tnI (by omega)] at h1; exact h1
  obtain ⟨x, f, g, hx, hf, hg, q0, w0⟩ := hk 0 hc1
  have ew : wyE a s = 2 * (8192 * x + f) + g := by
    have e : a 21 (pl a s 0) = nI (2 * (8192 * x + f) + g) := by
      unfold pl
      rw [e19, tnI (by omega)]
      exact w0
    unfold wyE
    rw [e]
    exact tnI (by omega)
  have en : cEn (wyE a s) = x := by unfold cEn; rw [ew]; omega
  have ef : cEf (wyE a s) = f := by unfold cEf; rw [ew]; omega
  obtain ⟨w1, w2, w3⟩ := SI_wy hs h1 hC.1
  rw [en] at w2 w3
  have hv := hC.1.1
  have hj : lnB (2 + s) 64 = true := by rcases (show s = 0 ∨ s = 1 by omega) with rfl | rfl <;> decide
  have g0 := f_get (w := w) hj hq (show 0 < 256 by decide)
  have e16 : (16 : Int32) + nI s = nI (16 + s) := nI_add 16 s
  have i16 : ixB (nI (16 + s)) 22 = true := ixn (by omega) (by decide)
  have c16 : (nI (16 + s)).toNatClampNeg = 16 + s := nI_clamp (by omega)
  have hb16 : b 1 (16 + s) = nI c := ((LR_1 h hs).2.2.2.2.2.2.2.2).trans e20
  have sq0 : shQ q 0 = q := by funext k; unfold shQ; rw [if_neg (Nat.not_lt_zero _)]
  obtain ⟨b1, f1, f2, f3⟩ := sh_l (w := w) (its := nI (q 0)) (q := q) hs (show c - 1 < 250 by omega) (c - 1) 0 w (up2 b 1 (16 + s) (nI (c - 1))) (by omega) (by omega) (up2_s _ _ _ _) (by rw [sq0, up2_k _ _ (by omega)]; exact hq)
  have hP := lr_pop hs h f3 e19 hH e20 hc1 hc hk f2
  have eone : f_L_one w b (nI s) = b_oneT w b1 (nI s) (nI (q 0)) := by
    rw [← f1]
    unfold f_L_one
    have e10 : ∀ j, j = 2 + s → b_L_one_10 w b (nI s) j = l_L_one_34 w w (up2 b 1 (16 + s) (nI (c - 1))) (nI s) (2 + s) (nI (q 0)) (nI 0) := fun j hjj => by
      subst hjj
      unfold b_L_one_10
      rw [show (0 : Int32) = nI 0 from rfl, g0, Option.bind_some, e16, i16, c16, hb16, show nI c - (1 : Int32) = nI (c - 1) from pk_sub hc1]
      rfl
    rcases (show s = 0 ∨ s = 1 by omega) with rfl | rfl
    · rw [if_pos (show nI 0 = (0 : Int32) from rfl)]; exact e10 2 rfl
    · rw [if_neg (show ¬ nI 1 = (0 : Int32) by decide)]; exact e10 3 rfl
  obtain ⟨ib1, ib2, ib3⟩ := its_bits hx hf hg
  have e96 : b_oneT w b1 (nI s) (nI (q 0)) = b_L_one_96 w b1 (nI s) (nI (q 0)) (nI x) (nI f) (5 - s) := by
    unfold b_oneT
    rw [q0, ib1, ib2]
    rcases (show s = 0 ∨ s = 1 by omega) with rfl | rfl
    · rw [if_pos (show nI 0 = (0 : Int32) from rfl)]
    · rw [if_neg (show ¬ nI 1 = (0 : Int32) by decide)]
  have rP : ∀ k, k ≠ 19 → k ≠ 20 → gPop a s k = a k := fun k k1 k2 => gPop_r _ _ k k1 k2
  obtain ⟨N', e4', hN', hall⟩ := hP.2.2.2.1 (1 - s) (by omega)
  have hx63 : x ≤ N' := by
    have w3' : x ≤ tn (a 4 (1 - s)) := w3
    have e4'' : a 4 (1 - s) = nI N' := by rw [← rP 4 (by decide) (by decide)]; exact e4'
    rw [e4'', tnI (by omega)] at w3'
    exact w3'
  obtain ⟨kd, wg, o1, o2, o3, o4, t, m1, m2, m3, m4, m5, m6, m7, eC, k11, k12, k13, k14, k15, k16, k17, k18⟩ := hall x w2 hx63
  have eC2 : lgA b1 (5 - s) x = nL (mcode kd wg o1 o2 o3 o4 t) := by rw [show 5 - s = 4 + (1 - s) by omega]; exact eC
  have hl5 : lnB (5 - s) 64 = true := by rcases (show s = 0 ∨ s = 1 by omega) with rfl | rfl <;> decide
  have ek : a 11 (8192 * (1 - s) + x) = nI kd := by rw [← rP 11 (by decide) (by decide)]; exact k11
  have e117 : b_L_one_96 w b1 (nI s) (nI (q 0)) (nI x) (nI f) (5 - s) = b_L_one_117 w b1 (nI s) (nI (q 0)) (nI x) (nI f) (nL (mcode kd wg o1 o2 o3 o4 t)) (nI (if f = 0 then kd else 4)) := by
    unfold b_L_one_96
    rw [hl5, ixn (show x < 64 by omega) (by decide), nI_clamp (show x < 2 ^ 31 by omega), eC2]
    simp only [cond_true, yl]
    rw [mc_kind m1 m2 m3 m4 m5 m6 m7]
    by_cases c0 : f = 0
    · rw [if_pos (show nI f ≤ (0 : Int32) by rw [c0]; decide), if_pos c0]
    · rw [if_neg (show ¬ nI f ≤ (0 : Int32) from fun e => c0 (by have := (nI_leI (a := f) (b := 0) (by omega) (by decide)).mp e; omega)), if_neg c0]
      rfl
  have phiP : phi (gPop a s) = phi a := phi_r (fun k hk => rP k (by omega) (by omega))
  have e35P : gPop a s 0 35 = a 0 35 := by rw [rP 0 (by decide) (by decide)]
  rw [eone, e96, e117]
  have e2 : (2 : Int32) + nI s = nI (2 + s) := nI_add 2 s
  obtain ⟨r0, r2, -, -, -, -, -, r14, -⟩ := LR_1 hP hs
  have r0' : b1 1 0 = a 0 1 := r0.trans (by rw [rP 0 (by decide) (by decide)])
  have r2' : b1 1 (2 + s) = a 3 s := r2.trans (by rw [rP 3 (by decide) (by decide)])
  have h3 : a 3 s = nI 0 ∨ a 3 s = nI 1 := (hv.2.2 s hs).2.2.2.2.2.2.1
  have isIn_iff : isIn a s ↔ g = 0 ∧ (¬ a 3 s = nI 0 ∨ (f = 0 ∧ kd = 0)) := by
    have d1 : wyE a s % 2 = g := by rw [ew]; omega
    have d2 : wyE a s / 2 % 8192 = f := by rw [ew]; omega
    have d3 : wyE a s / 2 / 8192 = x := by rw [ew]; omega
    unfold isIn
    rw [d1, d2, d3, ek]
    have : nI kd = nI 0 ↔ kd = 0 := nI_eq (by omega) (by decide)
    rw [this]
  unfold b_L_one_117
  rw [q0, ib3, e2, ixn (show 2 + s < 22 by omega) (by decide), nI_clamp (show 2 + s < 2 ^ 31 by omega), r2']
  simp only [cond_true]
  by_cases cg : g = 1
  · rw [if_pos (show nI g = (1 : Int32) by rw [cg]; rfl)]
    have hni : ¬ isIn a s := fun z => by have := (isIn_iff.mp z).1; omega
    have e : gCome1 a s = gPop a s := if_neg hni
    rw [e, phiP, e35P]
    exact ⟨b1, rfl, hP, hphi⟩
  have g00 : g = 0 := by omega
  rw [if_neg (show ¬ nI g = (1 : Int32) by rw [g00]; decide)]
  by_cases cin : isIn a s
  · have e : gCome1 a s = gComes (gPop a s) s (cEn (wyE a s)) (cEf (wyE a s)) := if_pos cin
    obtain ⟨B, eB, hS, hm, hr, hoth, h10, B5, B4, B18, B11⟩ := cm_b hn hO hs h1 cin hC
    have e143 : (if a 3 s = (0 : Int32) then (if nI (if f = 0 then kd else 4) = (0 : Int32) then b_L_one_143 w b1 (nI s) (nI x) (nI f) (nL (mcode kd wg o1 o2 o3 o4 t)) (nI (if f = 0 then kd else 4)) else some (b1, (0 : Int32))) else b_L_one_143 w b1 (nI s) (nI x) (nI f) (nL (mcode kd wg o1 o2 o3 o4 t)) (nI (if f = 0 then kd else 4))) = b_L_one_143 w b1 (nI s) (nI x) (nI f) (nL (mcode kd wg o1 o2 o3 o4 t)) (nI (if f = 0 then kd else 4)) := by
      by_cases c3 : a 3 s = (0 : Int32)
      · have := (isIn_iff.mp cin).2.resolve_left (fun z => z c3)
        rw [if_pos c3, if_pos (show nI (if f = 0 then kd else 4) = (0 : Int32) by rw [if_pos this.1, this.2]; rfl)]
      · rw [if_neg c3]
    rw [e143, e]
    unfold gComes
    rw [eB]
    -- the state behind 143
    have hA : ∃ b2, b_L_one_143 w b1 (nI s) (nI x) (nI f) (nL (mcode kd wg o1 o2 o3 o4 t)) (nI (if f = 0 then kd else 4)) = b_L_one_165 w b2 (nI s) (nI x) (nI f) (nL (mcode kd wg o1 o2 o3 o4 t)) (nI (if f = 0 then kd else 4)) ∧ LR Hh b2 (gCmA (gPop a s) s x f) := by
      have l1 := lr_hrd (v := a 0 1) hs hP
      have ec : (f = 0 ∧ gPop a s 11 (8192 * (1 - s) + x) = nI 0) ↔ (f = 0 ∧ kd = 0) := by
        rw [rP 11 (by decide) (by decide), ek]
        have : nI kd = nI 0 ↔ kd = 0 := nI_eq (by omega) (by decide)
        rw [this]
      have e01 : gPop a s 0 1 = a 0 1 := by rw [rP 0 (by decide) (by decide)]
      unfold b_L_one_143 gCmA
      rw [show (14 : Int32) + nI s = nI (14 + s) from nI_add 14 s, ixn (show 14 + s < 22 by omega) (by decide), nI_clamp (show 14 + s < 2 ^ 31 by omega), show ixB (0 : Int32) 22 = true from rfl, show (0 : Int32).toNatClampNeg = 0 from rfl, r0', e01, e2, ixn (show 2 + s < 22 by omega) (by decide), nI_clamp (show 2 + s < 2 ^ 31 by omega)]
      simp only [cond_true, yl]
      by_cases c0 : f = 0 ∧ kd = 0
      · rw [if_pos (show nI (if f = 0 then kd else 4) = (0 : Int32) by rw [if_pos c0.1, c0.2]; rfl), if_pos (ec.mpr c0)]
        exact ⟨_, rfl, lr_on (v := nI 1) hs l1⟩
      · rw [if_neg (show ¬ nI (if f = 0 then kd else 4) = (0 : Int32) from fun z => c0 (by
          have := (nI_eq (a := if f = 0 then kd else 4) (b := 0) (by split <;> omega) (by decide)).mp z
          split at this <;> omega)), if_neg (fun z => c0 (ec.mp z))]
        exact ⟨_, rfl, l1⟩
    obtain ⟨b2, a1, hLA⟩ := hA
    rw [a1]
    have rA : ∀ k, k ≠ 10 → k ≠ 3 → k ≠ 19 → k ≠ 20 → gCmA (gPop a s) s x f k = a k := fun k k1 k2 k3 k4 => by rw [gCmA_r _ _ _ _ k k1 k2, rP k k3 k4]
    -- the answer
    have hB : ∃ b3, b_L_one_165 w b2 (nI s) (nI x) (nI f) (nL (mcode kd wg o1 o2 o3 o4 t)) (nI (if f = 0 then kd else 4)) = b_L_one_190 w b3 (nI s) (nI x) (nI f) ∧ LR Hh b3 B ∧ tn (B 20 (1 - s)) ≤ 90 + 39 := by
      have h20A : gCmA (gPop a s) s x f 20 (1 - s) = a 20 (1 - s) := by
        rw [gCmA_r _ _ _ _ 20 (by decide) (by decide)]
        unfold gPop
        rw [up2_n _ _ (by omega), up2_n _ _ (by omega)]
      have ec : (f = 0 ∧ gPop a s 11 (8192 * (1 - s) + x) = nI 3) ↔ (f = 0 ∧ kd = 3) := by
        rw [rP 11 (by decide) (by decide), ek]
        have : nI kd = nI 3 ↔ kd = 3 := nI_eq (by omega) (by decide)
        rw [this]
      have e14 : gPop a s 14 (8192 * (1 - s) + x) = nI o1 := k14
      have h90 := h20 (1 - s) (by omega)
      rw [← eB, en, ef]
      unfold b_L_one_165 gCmB
      by_cases c3 : f = 0 ∧ kd = 3
      · rw [if_pos (show nI (if f = 0 then kd else 4) = (3 : Int32) by rw [if_pos c3.1, c3.2]; rfl), if_pos (ec.mpr c3), e14, tnI (show o1 < 2 ^ 31 by omega), show (5 : Int32) = nI 5 from rfl, f_part w b2 (mc_lt m1 m2 m3 m4 m5 m6 m7) (by decide), mc_5 m1 m2 m3 m4 m5 m6, Option.bind_some]
        obtain ⟨N, e4N, hN, -⟩ := hLA.2.2.2.1 s hs
        obtain ⟨qq, cc, HH, -, e19c, hHc, e20c, hcc, -⟩ := hLA.2.2.1 (1 - s) (by omega)
        have hN19 : N ≤ 19 := by
          have := h4 s hs
          rw [← rA 4 (by decide) (by decide) (by decide) (by decide), e4N, tnI (by omega)] at this
          exact this
        have hcc90 : cc ≤ 90 := by
          rw [← h20A, e20c, tnI (by omega)] at h90
          exact h90
        obtain ⟨E, R, mi⟩ := hC.2.2.1
        have hoi := MI_ordIn hs hv mi
        obtain ⟨b3, z1, z2⟩ := lk_answer2 (w := w) (f := o1) hLA hs (by omega) e4N (by omega) (k18 c3.2) m3 ⟨e19c, hHc, e20c⟩ (by omega) (fun i hi1 hi h5 => by
          rw [rA 11 (by decide) (by decide) (by decide) (by decide)] at h5
          rw [rA 14 (by decide) (by decide) (by decide) (by decide), rA 0 (by decide) (by decide) (by decide) (by decide)]
          obtain ⟨o, o5, o6⟩ := hoi i hi1 (by
            have : a 4 s = nI N := by rw [← rA 4 (by decide) (by decide) (by decide) (by decide)]; exact e4N
            rw [this, tnI (by omega)]; exact hi) h5
          rw [o5]
          have := tn_nI_le o
          omega)
        refine ⟨b3, ?_, z2, ?_⟩
        · rw [z1]; rfl
        · have := ans_bd (gCmA (gPop a s) s x f) s o1
          rw [h20A, e4N, tnI (show N < 2 ^ 31 by omega)] at this
          omega
      · rw [if_neg (show ¬ nI (if f = 0 then kd else 4) = (3 : Int32) from fun z => c3 (by
          have := (nI_eq (a := if f = 0 then kd else 4) (b := 3) (by split <;> omega) (by decide)).mp z
          split at this <;> omega)), if_neg (fun z => c3 (ec.mp z))]
        exact ⟨b2, rfl, hLA, by rw [h20A]; omega⟩
    obtain ⟨b3, z1, z2, z3⟩ := hB
    rw [z1]
    have phiB : phi B = phi a := phi_r (fun k hk => by
      rw [← eB, cmB_r _ _ _ _ k (by omega) (by omega) (by omega) (by omega) (by omega) (by omega) (by omega), rP k (by omega) (by omega)])
    have B35 : B 0 35 = a 0 35 := by rw [← eB, cmB_r _ _ _ _ 0 (by omega) (by omega) (by omega) (by omega) (by omega) (by omega) (by omega), rP 0 (by omega) (by omega)]
    have key := lk_190 (Hh := Hh) (w := w) (a0 := a) (b := b3) hn hO hs hK (by omega) z2 hz hS hm hoth h10 (by rw [en]; exact hx) (by rw [ef]; exact hf) (by rw [phiB, B35]; exact hphi) (by rw [B4]; have := h4 s hs; have := h4 (1 - s) (by omega); omega) (by have := h4 (1 - s) (by omega); omega)
    rw [en, ef] at key ⊢
    exact key
  · have e : gCome1 a s = gPop a s := if_neg cin
    have hno := fun z => cin (isIn_iff.mpr ⟨g00, z⟩)
    have c3 : a 3 s = (0 : Int32) := Classical.byContradiction (fun z => hno (Or.inl z))
    rw [if_pos c3, if_neg (show ¬ nI (if f = 0 then kd else 4) = (0 : Int32) from fun z => hno (Or.inr (by
      have := (nI_eq (a := if f = 0 then kd else 4) (b := 0) (by split <;> omega) (by decide)).mp z
      split at this <;> omega))), e, phiP, e35P]
    exact ⟨b1, rfl, hP, hphi⟩
