/-! trades: cancels and replaces, the day, busts and corrections -/
variable {Hh Hg : Nat → Nat}
theorem lnR_le {N N' T T' : Nat} {x : Option (((MP × NC) × AS) × Int32)} (g : lnR N T x) (g1 : N ≤ N') (g2 : T ≤ T') : lnR N' T' x := by
  obtain ⟨μ', ν', b', a', e1, e2, e3⟩ := g
  exact ⟨μ', ν', b', a', e1, JC_le e2 g1 g2, e3⟩
theorem tr_466 {w N T act o x y : Nat} {μ : MP} {ν : NC} {b a : AS} (hact : 3 ≤ act ∧ act < 6) (hx1 : 1 ≤ x) (hx : x ≤ 100) (hy1 : 1 ≤ y) (hy : y ≤ 100) (hJ : JC N T μ ν a) (h : LR Zh b a) (ho : o < tn (a 0 22)) (hask : noAsk a o) : lnR (N + 1) (T + 1) (b_L_trades_466 w μ ν b (nI act) (nI x) (nI y) (nI o)) := by
  unfold b_L_trades_466
  by_cases c3 : act = 3
  · rw [if_pos (show nI act = (3 : Int32) by rw [c3]; rfl), jc_cancelX hJ ho hask, Option.bind_some]
    unfold b_L_trades_477
    rw [if_pos rfl]
    exact ⟨_, _, b, a, rfl, JC_le (JC_thr hJ) (Nat.le_succ _) (Nat.le_refl _), h⟩
  · rw [if_neg (show ¬ nI act = (3 : Int32) from Ieq (b := 3) (by omega) (by decide) c3), jc_replaceX (v := 3) hJ ho (by unfold rpWhy; rw [if_neg (jc_rg hx1 hx), if_neg (jc_rg hy1 hy), if_pos hask]) (Or.inr rfl), Option.bind_some]
    unfold b_L_trades_501
    rw [if_pos (show (if (3 : Nat) = 2 then (-7200 : Int32) else (-7300 : Int32)) = (-7300 : Int32) from rfl)]
    exact ⟨_, _, b, a, rfl, JC_le (JC_thr hJ) (Nat.le_succ _) (Nat.le_refl _), h⟩
theorem tr_go {w N T act o x y : Nat} {μ : MP} {ν : NC} {b a : AS} (hN : N + 1 ≤ 512) (hact : 3 ≤ act ∧ act < 6) (hx1 : 1 ≤ x) (hx : x ≤ 100) (hy1 : 1 ≤ y) (hy : y ≤ 100) (hJ : JC N T μ ν a) (h : LR Zh b a) (ho : o < tn (a 0 22)) (hask : ¬ noAsk a o) (h4 : ∀ t, t < 2 → tn (a 4 t) ≤ 19) (h20 : ∀ t, t < 2 → tn (a 20 t) ≤ 90) : lnR (N + 1) T (if nI act = (3 : Int32) then ((f_L_send w (up2 b 12 o (b 12 o + (16 : Int32))) (0 : Int32) (6 : Int32) (nI o) (0 : Int32) (0 : Int32) (0 : Int32)).bind (fun v72 => b_L_trades_575 w μ ν v72.1 (nI act) (nI x) (nI y) (nI o))) else ((f_L_send w (up2 b 12 o (b 12 o + (16 : Int32))) (0 : Int32) (7 : Int32) (nI o) (nI x) (nI y) (0 : Int32)).bind (fun v68 => b_L_trades_575 w μ ν v68.1 (nI act) (nI x) (nI y) (nI o)))) := by
  have h10 := LR_tnO h
  have hv := JC_sv hJ
  obtain ⟨-, se, kn, ha, le, un, rk, ⟨⟨g1, g2, g3, g4, g5, g6⟩, r1, r2, r3, r4, r5, r6⟩, e12⟩ := L6_at h.2.2.2.2.2.2.1 ho
  have hun : un < 5 := by
    have : ¬ nI 5 ≤ a 30 o := fun z => hask (Or.inr (Or.inr z))
    rw [r5, nI_leI (by decide) (by omega)] at this
    omega
  have h00 := lr_00 (v := nI 0) h
  have hU := lr_un (un' := un + 1) (v := b 12 o + (16 : Int32)) h00 (show o < tn (up2 a 0 0 (nI 0) 0 22) from ho) (show up2 a 0 0 (nI 0) 30 o = nI un from r5) g5 (by omega) (fun C eC hC hu => by
    rw [eC, show (16 : Int32) = nI 16 from rfl, nI_add]
    congr 1
    omega)
  have e30 : nI (un + 1) = a 30 o + nI 1 := by rw [r5, nI_add]
  rw [e30] at hU
  have fin : ∀ (kd : Nat) (X Y : Nat) (b4 : AS), LR Zh b4 (gReq a o (nI kd) (nI X) (nI Y)) → ixB (nI o) 10 = true ∧ ((b4 12 (nI o).toNatClampNeg >>> ((4 : Int32) &&& 31)) &&& (7 : Int32)) = a 30 o + nI 1 := fun kd X Y b4 hb => by
    have e22 : gReq a o (nI kd) (nI X) (nI Y) 0 22 = a 0 22 := by
      unfold gReq
      rw [gSends_k _ _ _ _ _ _ _ _ _ (by decide) (by decide) (by decide) (by decide) (by decide), up2_n _ _ (by omega), up2_n _ _ (by omega)]
    obtain ⟨-, se', kn', ha', le', un', rk', ⟨⟨m1, m2, m3, m4, m5, m6⟩, q1, q2, q3, q4, q5, q6⟩, f12⟩ := L6_at hb.2.2.2.2.2.2.1 (show o < tn (gReq a o (nI kd) (nI X) (nI Y) 0 22) by rw [e22]; exact ho)
    have e30' : gReq a o (nI kd) (nI X) (nI Y) 30 o = a 30 o + nI 1 := by
      unfold gReq
      rw [gSends_k _ _ _ _ _ _ _ _ _ (by decide) (by decide) (by decide) (by decide) (by decide), up2_s]
    refine ⟨ixn (by omega) (by decide), ?_⟩
    rw [nI_clamp (show o < 2 ^ 31 by omega), f12, (kd_bits m1 m2 m3 m4 m5 m6).2.2.2.2.1, ← q5, e30']
  have sN : tn (up2 (up2 a 0 0 (nI 0)) 30 o (a 30 o + nI 1) 4 0) + 1 ≤ 63 := by rw [up2_n _ _ (by omega), up2_n _ _ (by omega)]; have := h4 0 (by decide); omega
  have sC : tn (up2 (up2 a 0 0 (nI 0)) 30 o (a 30 o + nI 1) 20 (1 - 0)) + 1 ≤ 240 := by rw [up2_n _ _ (by omega), up2_n _ _ (by omega)]; have := h20 1 (by decide); show tn (a 20 1) + 1 ≤ 240; omega
  by_cases c3 : act = 3
  · rw [if_pos (show nI act = (3 : Int32) by rw [c3]; rfl)]
    obtain ⟨b4, s1, s2⟩ := lk_send (w := w) (s := 0) (kd := 6) (o1 := o) (o2 := 0) (o3 := 0) (o4 := 0) hU (by decide) (by rw [up2_n _ _ (by omega), up2_n _ _ (by omega)]; exact hv.2.1) sN sC (by decide) (by omega) (by decide) (by decide) (by decide)
    obtain ⟨μ', ν', c1, c2⟩ := jc_cancel (w := w) hN hJ ho hask
    obtain ⟨i10, ev⟩ := fin 6 0 0 b4 s2
    rw [show f_L_send w (up2 b 12 o (b 12 o + (16 : Int32))) (0 : Int32) (6 : Int32) (nI o) (0 : Int32) (0 : Int32) (0 : Int32) = some (b4, 0) from s1, Option.bind_some]
    unfold b_L_trades_575
    rw [if_pos (show nI act = (3 : Int32) by rw [c3]; rfl), c1, Option.bind_some]
    unfold b_L_trades_586 b_L_trades_599
    rw [i10, ev]
    simp only [cond_true]
    rw [if_pos trivial]
    exact ⟨μ', ν', b4, _, rfl, c2, s2⟩
  · rw [if_neg (show ¬ nI act = (3 : Int32) from Ieq (b := 3) (by omega) (by decide) c3)]
    obtain ⟨b4, s1, s2⟩ := lk_send (w := w) (s := 0) (kd := 7) (o1 := o) (o2 := x) (o3 := y) (o4 := 0) hU (by decide) (by rw [up2_n _ _ (by omega), up2_n _ _ (by omega)]; exact hv.2.1) sN sC (by decide) (by omega) hx hy (by decide)
    obtain ⟨μ', ν', c1, c2⟩ := jc_replace (w := w) hN hJ ho hx1 hx hy1 hy hask
    obtain ⟨i10, ev⟩ := fin 7 x y b4 s2
    rw [show f_L_send w (up2 b 12 o (b 12 o + (16 : Int32))) (0 : Int32) (7 : Int32) (nI o) (nI x) (nI y) (0 : Int32) = some (b4, 0) from s1, Option.bind_some]
    unfold b_L_trades_575
    rw [if_neg (show ¬ nI act = (3 : Int32) from Ieq (b := 3) (by omega) (by decide) c3), c1, Option.bind_some]
    unfold b_L_trades_599
    rw [i10, ev]
    simp only [cond_true]
    rw [if_pos trivial]
    exact ⟨μ', ν', b4, _, rfl, c2, s2⟩
theorem tr_req {w N T act x y : Nat} {v3 : Int32} {μ : MP} {ν : NC} {b a : AS} (hN : N + 1 ≤ 512) (hact : 3 ≤ act ∧ act < 6) (hx1 : 1 ≤ x) (hx : x ≤ 100) (hy1 : 1 ≤ y) (hy : y ≤ 100) (hJ : JC N T μ ν a) (h : LR Zh b a) (h4 : ∀ t, t < 2 → tn (a 4 t) ≤ 19) (h20 : ∀ t, t < 2 → tn (a 20 t) ≤ 90) : lnR (N + 1) (T + 5) (bif ixB (18 : Int32) 22 then (f_L_low w b (v3 >>> ((7 : Int32) &&& 31)) ((b 1 (18 : Int32).toNatClampNeg) + (1 : Int32))).bind (fun v59 => (if v59 = (b 1 (18 : Int32).toNatClampNeg) then ((f_L_cancel w μ ν v59).bind (fun v74 => b_L_trades_339 w v74.1.1 v74.1.2 b v59 v74.2)) else ((f_L_replace w μ ν v59 (0 : Int32) (nI y)).bind (fun v60 => b_L_trades_385 w v60.1.1 v60.1.2 b (nI act) (nI x) (nI y) v59 v60.2)))) else none) := by
  have J1 := JC_thr hJ
  have J2 := JC_thr J1
  obtain ⟨K, eK, hK⟩ := LR_O h
  have r18 : b 1 18 = nI K := h.2.1.2.2.1.trans eK
  have eKt : tn (a 0 22) = K := by rw [eK, tnI (by omega)]
  obtain ⟨o, ho, el⟩ := lk_low w b (v3 >>> ((7 : Int32) &&& 31)) (show 1 ≤ K + 1 by omega) (show K + 1 < 2 ^ 31 by omega)
  rw [show ixB (18 : Int32) 22 = true from rfl, show (18 : Int32).toNatClampNeg = 18 from rfl, r18, show nI K + (1 : Int32) = nI (K + 1) from nI_add K 1, el, Option.bind_some]
  simp only [cond_true]
  by_cases cK : o = K
  · rw [if_pos (show nI o = nI K by rw [cK])]
    have hle : a 0 22 ≤ nI o := by rw [eK, cK]; exact Int32.le_refl _
    rw [jc_cancelY hJ (Or.inr hle), Option.bind_some]
    unfold b_L_trades_339
    rw [if_pos rfl, jc_replaceY J1 (Or.inr hle), Option.bind_some]
    unfold b_L_trades_353
    rw [if_pos rfl, jc_cancelY J2 (Or.inl (by decide)), Option.bind_some]
    unfold b_L_trades_364
    rw [if_pos rfl]
    exact ⟨_, _, b, a, rfl, JC_le (JC_thr J2) (Nat.le_succ _) (Nat.add_le_add_left (show 3 ≤ 5 by decide) T), h⟩
  · rw [if_neg (show ¬ nI o = nI K from Ieq (by omega) (by omega) cK)]
    have hoK : o < tn (a 0 22) := by rw [eKt]; omega
    have h10 : o < 10 := by omega
    rw [jc_replaceX (v := 2) hJ hoK (by unfold rpWhy; rw [if_pos rgX_0]) (Or.inl rfl), Option.bind_some]
    unfold b_L_trades_385
    rw [if_pos (show (if (2 : Nat) = 2 then (-7200 : Int32) else (-7300 : Int32)) = (-7200 : Int32) from rfl), jc_replaceX (v := 2) J1 hoK (by unfold rpWhy; rw [if_neg (jc_rg hx1 hx), if_pos rgX_101]) (Or.inl rfl), Option.bind_some]
    obtain ⟨-, se, kn, ha, le, un, rk, ⟨⟨g1, g2, g3, g4, g5, g6⟩, r1, r2, r3, r4, r5, r6⟩, e12⟩ := L6_at h.2.2.2.2.2.2.1 hoK
    have kd := kd_bits g1 g2 g3 g4 g5 g6
    have hrest : f_L_rest w b (nI o) = some (lft a o) := by
      have := lk_rest (w := w) h (show 0 < 2 by decide) h10
      rw [Nat.zero_add] at this
      exact this
    obtain ⟨-, r3', -⟩ := LR_1 h (show 0 < 2 by decide)
    have i10 : ixB (nI o) 10 = true := ixn h10 (by decide)
    have co : (nI o).toNatClampNeg = o := nI_clamp (by omega)
    -- s0: whether it is over
    have k438 : ∀ s0 : Nat, s0 < 2 → (s0 = 1 ↔ stO a o = nI 2) → lnR (N + 1) (T + 3) (b_L_trades_438 w μ (chg (chg ν 1 6) 1 6) b (nI act) (nI x) (nI y) (nI o) (nI s0)) := fun s0 hs0 hso => by
      unfold b_L_trades_438
      rw [show ixB (2 : Int32) 22 = true from rfl, show (2 : Int32).toNatClampNeg = 2 from rfl, show b 1 2 = a 3 0 from r3']
      simp only [cond_true]
      by_cases c3 : a 3 0 = (0 : Int32)
      · rw [if_pos c3]
        exact tr_466 hact hx1 hx hy1 hy J2 h hoK (Or.inl c3)
      · rw [if_neg c3]
        by_cases c1 : s0 = 1
        · rw [if_neg (show ¬ nI s0 = (0 : Int32) by rw [c1]; decide)]
          exact tr_466 hact hx1 hx hy1 hy J2 h hoK (Or.inr (Or.inl (hso.mp c1)))
        · rw [if_pos (show nI s0 = (0 : Int32) by rw [show s0 = 0 by omega]; rfl), i10, co, e12, kd.2.2.2.2.1]
          simp only [cond_true]
          by_cases c5 : un = 5
          · rw [if_pos (show nI un = (5 : Int32) by rw [c5]; rfl)]
            exact tr_466 hact hx1 hx hy1 hy J2 h hoK (Or.inr (Or.inr (by rw [r5, c5]; decide)))
          · rw [if_neg (show ¬ nI un = (5 : Int32) from Ieq (b := 5) (by omega) (by decide) c5)]
            have hask : ¬ noAsk a o := fun z => by
              rcases z with z | z | z
              · exact c3 z
              · exact c1 (hso.mpr z)
              · rw [r5, nI_leI (by decide) (by omega)] at z; omega
            have := tr_go (w := w) hN hact hx1 hx hy1 hy J2 h hoK hask h4 h20
            rw [e12] at this
            simp only [yl]
            exact lnR_le this (Nat.le_refl _) (Nat.le_succ _)
    refine lnR_le (T := T + 3) ?_ (Nat.le_refl _) (Nat.add_le_add_left (show 3 ≤ 5 by decide) T)
    unfold b_L_trades_401
    rw [if_pos (show (if (2 : Nat) = 2 then (-7200 : Int32) else (-7300 : Int32)) = (-7200 : Int32) from rfl), i10, co, e12, kd.2.1]
    simp only [cond_true]
    have st : ∀ z : Int32, stO a o = z ↔ (if kn = 0 then nI 0 else if lft a o ≤ nI 0 then nI 2 else nI 1) = z := fun z => by
      unfold stO
      rw [r2]
      by_cases c : kn = 0
      · rw [if_pos (show nI kn = nI 0 by rw [c]), if_pos c]
      · rw [if_neg (show ¬ nI kn = nI 0 from Ieq (by omega) (by decide) c), if_neg c]
    by_cases ck : kn = 0
    · rw [if_pos (show nI (2 * kn) ≤ (0 : Int32) by rw [ck]; decide)]
      exact k438 0 (by decide) ⟨fun z => absurd z (by decide), fun z => by rw [st, if_pos ck] at z; exact absurd z (by decide)⟩
    · rw [if_neg (show ¬ nI (2 * kn) ≤ (0 : Int32) from fun e => by have := (nI_leI (a := 2 * kn) (b := 0) (by omega) (by decide)).mp e; omega), hrest, Option.bind_some]
      by_cases cl : (0 : Int32) < lft a o
      · rw [if_pos cl]
        exact k438 0 (by decide) ⟨fun z => absurd z (by decide), fun z => by rw [st, if_neg ck, if_neg (show ¬ lft a o ≤ nI 0 from Int32.not_le.mpr cl)] at z; exact absurd z (by decide)⟩
      · rw [if_neg cl]
        exact k438 1 (by decide) ⟨fun _ => by rw [st, if_neg ck, if_pos (show lft a o ≤ nI 0 from Int32.not_lt.mp cl)], fun _ => rfl⟩
/-- the day -/
theorem tr_day {w N T : Nat} {μ : MP} {ν : NC} {b a : AS} (hJ : JC N T μ ν a) (h : LR Zh b a) (hD : tn (a 0 44) ≤ 200) : lnR N T (bif ixB (20 : Int32) 22 then yl (up2 b 1 (20 : Int32).toNatClampNeg ((b 1 (20 : Int32).toNatClampNeg) + (1 : Int32))) (fun a32 => (f_X8_endDay w μ ν).bind (fun v33 => (if v33.2 = (a32 1 (20 : Int32).toNatClampNeg) then (some (((v33.1, ν), a32), (1 : Int32))) else (some (((v33.1, ν), a32), (0 : Int32)))))) else none) := by
  obtain ⟨n, l0, l1, k1, k2, k3, k4, k5⟩ := JC_d hJ
  obtain ⟨h0, hF, ⟨y1, y2, y3, y4⟩, h2, h3, h4, h5, h6, h7, h8, h9⟩ := RR_stop (v := nI 0) k3
  have e : up2 a 0 0 (nI 0) 0 44 = a 0 44 := up2_n _ _ (by omega)
  rw [e] at y3
  have hk : f_X8_endDay w μ ν = some (uM μ 0 0 10 (a 0 44 + 1), a 0 44 + 1) := by
    unfold f_X8_endDay
    rw [ltt k3.1.1]
    simp only [cond_true, yl]
    rw [y3, uM_s, up1_s]
  have hR : RR (uM μ 0 0 10 (a 0 44 + 1)) ν (up2 (up2 a 0 0 (nI 0)) 0 44 (a 0 44 + 1)) := by
    refine ⟨h0, hF, ⟨?_, ?_, ?_, ?_⟩, h2, h3, h4, h5, h6, h7, h8, h9⟩
    · rw [uM_s, up1_n _ _ (by decide)]; exact y1
    · rw [uM_s, up1_n _ _ (by decide)]; exact y2
    · rw [uM_s, up1_s, up2_s]
    · exact y4
  have r20 : b 1 20 = a 0 44 := h.2.1.2.2.2.2.1
  obtain ⟨⟨t, et, ht⟩, D, eD, hD'⟩ := h.1
  rw [eD, tnI (by omega)] at hD
  rw [show ixB (20 : Int32) 22 = true from rfl, show (20 : Int32).toNatClampNeg = 20 from rfl, r20, hk]
  simp only [cond_true, yl, Option.bind_some]
  rw [up2_s, if_pos rfl]
  refine ⟨_, ν, _, up2 (up2 a 0 0 (nI 0)) 0 44 (a 0 44 + 1), rfl, ⟨n, l0, l1, k1, KA_day k2, hR, k4, k5⟩, ?_⟩
  obtain ⟨l0', l1', l2', l3', l4', l5', l6', l7', l8'⟩ := lr_00 (v := nI 0) h
  refine lr_m ⟨l0', l1', l2', l3', l4', l5', l6', l7', l8'⟩ (fun k k1 k2 => up2_k _ _ (by omega)) (fun k hk => up2_k _ _ (by omega)) ⟨⟨t, et, ht⟩, D + 1, ?_, by omega⟩ (L1_set l1' (Or.inr (Or.inr (Or.inl ⟨rfl, rfl⟩)))) l5' l6' l7' l8'
  rw [up2_s, eD]
  exact nI_add D 1
