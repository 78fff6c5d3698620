/-! The class's half of a call: answers by the ghost, what is kept. T: what was thrown so far. -/
def JC (N T : Nat) (μ : MP) (ν : NC) (a : AS) : Prop := KB N ((8 * T : Nat) : Int) ((6 * T : Nat) : Int) ((μ, ν), a)
theorem JC_d {N T : Nat} {μ : MP} {ν : NC} {a : AS} (h : JC N T μ ν a) : ∃ (n : Nat → Nat) (l0 l1 : Nat), sm8 n ≤ N ∧ KA n l0 l1 a ∧ RR μ ν a ∧ bal ν a ≤ ((l0 + l1 : Nat) : Int) ∧ RC ((8 * T : Nat) : Int) ((6 * T : Nat) : Int) ν := h
theorem JC_le {N N' T T' : Nat} {μ : MP} {ν : NC} {a : AS} (h : JC N T μ ν a) (hN : N ≤ N') (hT : T ≤ T') : JC N' T' μ ν a := by
  obtain ⟨n, l0, l1, k1, k2, k3, k4, k5⟩ := JC_d h
  exact ⟨n, l0, l1, Nat.le_trans k1 hN, k2, k3, k4, RC_le k5 (by omega) (by omega)⟩
theorem JC_thr {N T : Nat} {μ : MP} {ν : NC} {a : AS} (h : JC N T μ ν a) : JC N (T + 1) μ (chg ν 1 6) a := by
  obtain ⟨n, l0, l1, k1, k2, k3, k4, k5⟩ := JC_d h
  exact ⟨n, l0, l1, k1, k2, RR_chg 1 6 k3, k4, RC_le (hC8 ν 6 _ _ k5) (by omega) (by omega)⟩
theorem JC_RR {N T : Nat} {μ : MP} {ν : NC} {a : AS} (h : JC N T μ ν a) : RR μ ν a := by
  obtain ⟨n, l0, l1, k1, k2, k3, k4, k5⟩ := JC_d h
  exact k3
theorem JC_00 {N T : Nat} {μ : MP} {ν : NC} {a : AS} {v : Int32} (h : JC N T μ ν a) : JC N T μ ν (up2 a 0 0 v) := by
  obtain ⟨n, l0, l1, k1, k2, k3, k4, k5⟩ := JC_d h
  exact ⟨n, l0, l1, k1, KA_00 k2, RR_stop k3, k4, k5⟩
/-- connect, cut -/
theorem jc_conX {w N T : Nat} {μ : MP} {ν : NC} {a : AS} {x : Int32} (h : JC N T μ ν a) (hup : ¬ a 0 2 = nI 0) : f_L_connect w μ ν x = some ((μ, chg ν 1 6), (-7300 : Int32)) := by
  unfold f_L_connect
  rw [k_connectX (JC_RR h) hup]
  rfl
theorem jc_con {w N T : Nat} {μ : MP} {ν : NC} {a : AS} (z : Bool) (hN : N + 1 ≤ 512) (h : JC N T μ ν a) (hd : a 0 2 = nI 0) : ∃ (μ' : MP) (ν' : NC), f_L_connect w μ ν (if z then nI 1 else nI 0) = some ((μ', ν'), (0 : Int32)) ∧ JC (N + 1) T μ' ν' (gConnect a z) := by
  obtain ⟨n, l0, l1, k1, k2, k3, k4, k5⟩ := JC_d h
  have hn : sm8 (nb n 7) ≤ N + 1 := sm_nb (by decide) k1
  obtain ⟨q1, q2, q3⟩ := KA_con z (by omega) hd k2
  obtain ⟨μ', ν', e, hR, -, hb, hc⟩ := k_connect (w := w) (z := z) k3 hd q2 q3
  refine ⟨μ', ν', ?_, nb n 7, _, _, hn, q1, hR, ?_, hc _ _ k5⟩
  · unfold f_L_connect
    rw [e]
    rfl
  · show bal ν' (gConnect a z) ≤ _
    rw [hb]
    have v0 := (gCon0_v a z 0 (by decide)).1
    have v1 := (gCon0_v a z 1 (by decide)).1
    unfold bal at k4 ⊢
    rw [v0, v1]
    unfold lgN
    cases z with
    | false => exact k4
    | true =>
      have e0 : tn (nI 0) = 0 := rfl
      simp only [if_true, e0]
      try dsimp only at k4
      omega
theorem jc_cutX {w N T : Nat} {μ : MP} {ν : NC} {a : AS} (h : JC N T μ ν a) (hd : a 0 2 = nI 0) : f_L_cut w μ ν = some ((μ, chg ν 1 6), (-7300 : Int32)) := by
  unfold f_L_cut
  rw [k_cutX (JC_RR h) hd]
  rfl
theorem jc_cut {w N T : Nat} {μ : MP} {ν : NC} {a : AS} (h : JC N T μ ν a) (hup : ¬ a 0 2 = nI 0) : ∃ μ' : MP, f_L_cut w μ ν = some ((μ', ν), a 20 0 + a 20 1) ∧ JC N T μ' ν (gDown (up2 a 0 0 (nI 0))) := by
  obtain ⟨n, l0, l1, k1, k2, k3, k4, k5⟩ := JC_d h
  obtain ⟨μ', e, hR⟩ := k_cut (w := w) k3 hup
  refine ⟨μ', ?_, n, l0, l1, k1, KA_cut k2, hR, ?_, k5⟩
  · unfold f_L_cut
    rw [e]
    rfl
  · have e4 : gDown (up2 a 0 0 (nI 0)) 4 = a 4 := by rw [gDown_r _ 4 (by omega) (by omega) (by omega) (by omega) (by omega) (by omega) (by omega), up2_k _ _ (by omega)]
    show bal ν (gDown (up2 a 0 0 (nI 0))) ≤ _
    rw [bal_of rfl e4]
    exact k4
/-- come -/
theorem jc_comeX {w N T : Nat} {μ : MP} {ν : NC} {a : AS} {x y : Int32} (h : JC N T μ ν a) (hx : x ≠ nI 0 ∧ x ≠ nI 1) : f_L_come w μ ν x y = some ((μ, chg ν 1 6), (-7100 : Int32)) := by
  have hk : f_X8_come w μ ν x y = some (1, ((μ, ν), 0)) := by
    unfold f_X8_come
    rw [k_sideX hx]
    rfl
  unfold f_L_come
  rw [hk]
  rfl
theorem jc_comeY {w N T s : Nat} {μ : MP} {ν : NC} {a : AS} {y : Int32} (h : JC N T μ ν a) (hs : s < 2) (c : y < 1 ∨ 100 < y) : f_L_come w μ ν (nI s) y = some ((μ, chg ν 1 6), (-7200 : Int32)) := by
  have hk : f_X8_come w μ ν (nI s) y = some (2, ((μ, ν), 0)) := by
    unfold f_X8_come
    rw [k_side hs]
    simp only [Option.bind_some]
    rw [eqs]
    simp only [cond_true]
    by_cases c1 : y < 1
    · rw [if_pos c1]; rfl
    · rw [if_neg c1, if_neg (Int32.not_le.mpr (c.resolve_left c1))]; rfl
  unfold f_L_come
  rw [hk]
  rfl
theorem jc_come {w N T s t : Nat} {μ : MP} {ν : NC} {a : AS} (hw : 8200 < w) (hN : N + 1 ≤ 512) (h : JC N T μ ν a) (hs : s < 2) (t1 : 1 ≤ t) (t2 : t ≤ 100) : ∃ (μ' : MP) (ν' : NC), f_L_come w μ ν (nI s) (nI t) = some ((μ', ν'), nI (min (tn (a 20 s)) t)) ∧ JC (N + 1) T μ' ν' (gComeL s (min (tn (a 20 s)) t) (up2 a 0 0 (nI 0))) := by
  obtain ⟨n, l0, l1, k1, k2, k3, k4, k5⟩ := JC_d h
  have hn : sm8 (nb n (1 + s)) ≤ N + 1 := sm_nb (by omega) k1
  obtain ⟨_, k, H, x1, x2, x3, x4, x5, x6, -⟩ := k3.2.2.2.2.2.1 s hs
  have ek : tn (a 20 s) = k := by rw [x4, tnI (by omega)]
  rw [ek]
  obtain ⟨q0, S, P1, P2, g1, g2, g3, g4, g5, g6, g7⟩ := KA_come (w := w) (d := min k t) (by omega) hs (by omega) (by omega) k2
  obtain ⟨μ', ν', r1, r2, r3, r4, r5⟩ := k_comeL (w := w) hs hw g1 (show min k t ≤ 100 by omega) P1 g2 g3 (min k t) 0 w μ ν (up2 a 0 0 (nI 0)) (RR_stop k3) (by omega) (by omega) (fun i hi => (g6 i hi).1)
  obtain ⟨z0, z1, z2, -⟩ := id k3.1
  have c : ¬ (nI t < 1 ∨ 100 < nI t) := fun hh => hh.elim (fun h => by have := (nI_ltI (a := t) (b := 1) (by omega) (by decide)).mp h; omega) (fun h => by have := (nI_ltI (a := 100) (b := t) (by decide) (by omega)).mp h; omega)
  have hk : f_X8_come w μ ν (nI s) (nI t) = some (0, ((μ', ν'), nI (min k t))) := by
    unfold f_X8_come
    rw [k_side hs]
    simp only [Option.bind_some]
    rw [eqs]
    simp only [cond_true]
    rw [if_neg (fun h => c (Or.inl h)), if_pos (Int32.not_lt.mp (fun h => c (Or.inr h)))]
    unfold b_X8_come_25
    rw [ltt z0, k_party k3.1 hs]
    simp only [cond_true, Option.bind_some, yl]
    rw [nzs, Nat.add_sub_cancel, ltt (show s < ν.2 1 by omega), ltt (show s < ν.2 2 by omega), x2]
    simp only [cond_true]
    rw [show (if nI k < nI t then nI k else nI t) = nI (min k t) by
      by_cases c : k < t
      · rw [if_pos ((nI_ltI (by omega) (by omega)).mpr c), show min k t = k by omega]
      · rw [if_neg (fun h => c ((nI_ltI (by omega) (by omega)).mp h)), show min k t = t by omega], show l_X8_come_47 w w μ ν (nI s) (s + 1) (nI (min k t)) (0 : Int32) = _ from r1]
    rfl
  refine ⟨μ', ν', ?_, nb n (1 + s), l0, l1, hn, q0, r2, ?_, r5 _ _ k5⟩
  · unfold f_L_come
    rw [hk]
    rfl
  · show bal ν' _ ≤ _
    rw [r4]
    exact k4
/-- garble -/
theorem jc_garbleX {w N T : Nat} {μ : MP} {ν : NC} {a : AS} {x y : Int32} (h : JC N T μ ν a) (hx : (x ≠ nI 0 ∧ x ≠ nI 1) ∨ ∃ s : Nat, s < 2 ∧ x = nI s ∧ (y < 0 ∨ a 20 s ≤ y)) : f_L_garble w μ ν x y = some ((μ, chg ν 1 6), (-7100 : Int32)) := by
  unfold f_L_garble
  rw [k_garbleX (JC_RR h) hx]
  rfl
theorem jc_garble {w N T s k : Nat} {μ : MP} {ν : NC} {a : AS} (hN : N + 1 ≤ 512) (h : JC N T μ ν a) (hs : s < 2) (hk : k < tn (a 20 s)) : ∃ (μ' : MP), f_L_garble w μ ν (nI s) (nI k) = some ((μ', ν), nI (tn (a 21 (pl a s k)) / 2 / 8192)) ∧ JC (N + 1) T μ' ν (gGarble a s k) := by
  obtain ⟨n, l0, l1, k1, k2, k3, k4, k5⟩ := JC_d h
  have hn : sm8 (nb n 3) ≤ N + 1 := sm_nb (by decide) k1
  obtain ⟨μ', e, hR⟩ := k_garble (w := w) k3 hs hk
  refine ⟨μ', ?_, nb n 3, l0, l1, hn, KA_garble (by omega) hs hk k2, hR, ?_, k5⟩
  · unfold f_L_garble
    rw [e]
    rfl
  · have e4 : gGarble a s k 4 = a 4 := by unfold gGarble; rw [up2_k _ _ (by omega), up2_k _ _ (by omega)]
    show bal ν (gGarble a s k) ≤ _
    rw [bal_of rfl e4]
    exact k4
/-- pass -/
theorem jc_passX {w N T : Nat} {μ : MP} {ν : NC} {a : AS} {x : Int32} (h : JC N T μ ν a) (hx : x < 1 ∨ 50 < x) : f_L_pass w μ ν x = some ((μ, chg ν 1 6), (-7200 : Int32)) := by
  unfold f_L_pass
  rw [k_passX hx]
  rfl
theorem jc_pass {w N T t : Nat} {μ : MP} {ν : NC} {a : AS} (hw : 8200 < w) (hN : N + 1 ≤ 512) (h : JC N T μ ν a) (t1 : 1 ≤ t) (t2 : t ≤ 50) : ∃ (μ' : MP) (ν' : NC), f_L_pass w μ ν (nI t) = some ((μ', ν'), nI (gPass a t).2) ∧ JC (N + 1) T μ' ν' (gPass a t).1 := by
  obtain ⟨n, l0, l1, k1, k2, k3, k4, k5⟩ := JC_d h
  have hn : sm8 (nb n 0) ≤ N + 1 := sm_nb (by decide) k1
  obtain ⟨q1, q2⟩ := KA_pass (t := t) (by omega) t2 k2
  obtain ⟨μ', ν', e, hR, -, hb, hc⟩ := k_pass (w := w) k3 t1 t2 (by omega) (fun i hi c => (q2 i hi c).1)
  refine ⟨μ', ν', ?_, nb n 0, l0, l1, hn, q1, hR, ?_, hc _ _ k5⟩
  · unfold f_L_pass
    rw [e]
    rfl
  · show bal ν' _ ≤ _
    rw [hb]
    exact k4
/-- order -/
theorem jc_orderX {w N T v : Nat} {μ : MP} {ν : NC} {a : AS} {x1 x2 x3 : Int32} (h : JC N T μ ν a) (hv : orWhy a x2 x3 = v) (h0 : v = 2 ∨ v = 3) : f_L_order w μ ν x1 x2 x3 = some ((μ, chg ν 1 6), if v = 2 then (-7200 : Int32) else (-7300 : Int32)) := by
  obtain ⟨n, l0, l1, k1, k2, k3, k4, k5⟩ := JC_d h
  obtain ⟨hO, -, e22⟩ := KA_O k2
  unfold f_L_order
  rw [k_orderX k3 e22 hO (by rw [hv]; omega), hv]
  rcases h0 with rfl | rfl <;> rfl
theorem jc_order {w N T d x y : Nat} {μ : MP} {ν : NC} {a : AS} (hN : N + 1 ≤ 512) (h : JC N T μ ν a) (hd : d < 2) (hx1 : 1 ≤ x) (hx : x ≤ 100) (hy1 : 1 ≤ y) (hy : y ≤ 100) (hon : ¬ a 3 0 = nI 0) (h40 : tn (a 0 22) < 40) : ∃ (μ' : MP) (ν' : NC), f_L_order w μ ν (nI d) (nI x) (nI y) = some ((μ', ν'), nI (tn (a 0 22))) ∧ JC (N + 1) T μ' ν' (gOrder a (tn (a 0 22)) (nI d) (nI x) (nI y)) := by
  obtain ⟨n, l0, l1, k1, k2, k3, k4, k5⟩ := JC_d h
  have hn : sm8 (nb n 4) ≤ N + 1 := sm_nb (by decide) k1
  obtain ⟨hO, eO, e22⟩ := KA_O k2
  rw [eO] at h40 ⊢
  have r : ∀ z : Nat, 1 ≤ z → z ≤ 100 → ¬ rgX (nI z) 1 100 := fun z z1 z2 hh => hh.elim (fun h => by have := (nI_ltI (a := z) (b := 1) (by omega) (by decide)).mp h; omega) (fun h => by have := (nI_ltI (a := 100) (b := z) (by decide) (by omega)).mp h; omega)
  have hfo : frO a := by obtain ⟨-, -, -, ⟨E, R, m⟩, -⟩ := k2; exact MI_frO m
  obtain ⟨μ', ν', e, hR, hb, hc⟩ := k_order (w := w) (x1 := nI d) k3 e22 h40 hfo (by rcases (show d = 0 ∨ d = 1 by omega) with rfl | rfl; exact Or.inl rfl; exact Or.inr rfl) (r x hx1 hx) (r y hy1 hy) hon (KB_rm (by omega) k2 (by decide) (by decide))
  refine ⟨μ', ν', ?_, nb n 4, l0, l1, hn, KA_order (by omega) h40 hd (by omega) (by omega) k2, hR, ?_, hc _ _ k5⟩
  · unfold f_L_order
    rw [e]
    rfl
  · show bal ν' _ ≤ _
    rw [hb]
    exact k4
/-- cancel, replace -/
theorem jc_cancelX {w N T o : Nat} {μ : MP} {ν : NC} {a : AS} (h : JC N T μ ν a) (ho : o < tn (a 0 22)) (hask : noAsk a o) : f_L_cancel w μ ν (nI o) = some ((μ, chg ν 1 6), (-7300 : Int32)) := by
  unfold f_L_cancel
  rw [k_cancelX (JC_RR h) ho hask]
  rfl
theorem jc_cancelY {w N T : Nat} {μ : MP} {ν : NC} {a : AS} {x : Int32} (h : JC N T μ ν a) (hx : x < 0 ∨ a 0 22 ≤ x) : f_L_cancel w μ ν x = some ((μ, chg ν 1 6), (-7100 : Int32)) := by
  unfold f_L_cancel
  rw [k_cancelY (JC_RR h) hx]
  rfl
theorem jc_cancel {w N T o : Nat} {μ : MP} {ν : NC} {a : AS} (hN : N + 1 ≤ 512) (h : JC N T μ ν a) (ho : o < tn (a 0 22)) (hask : ¬ noAsk a o) : ∃ (μ' : MP) (ν' : NC), f_L_cancel w μ ν (nI o) = some ((μ', ν'), a 30 o + nI 1) ∧ JC (N + 1) T μ' ν' (gReq a o (nI 6) (nI 0) (nI 0)) := by
  obtain ⟨n, l0, l1, k1, k2, k3, k4, k5⟩ := JC_d h
  have hn : sm8 (nb n 5) ≤ N + 1 := sm_nb (by decide) k1
  obtain ⟨hO, eO, e22⟩ := KA_O k2
  obtain ⟨μ', ν', e, hR, -, hb, hc⟩ := k_cancel (w := w) k3 ho hask (KB_rm (by omega) k2 (by decide) (by decide))
  refine ⟨μ', ν', ?_, nb n 5, l0, l1, hn, KA_req (by omega) (by omega) (Or.inl rfl) (by omega) (by omega) k2, hR, ?_, hc _ _ k5⟩
  · unfold f_L_cancel
    rw [e]
    rfl
  · show bal ν' _ ≤ _
    rw [hb]
    exact k4
theorem jc_replaceX {w N T o v : Nat} {μ : MP} {ν : NC} {a : AS} {x y : Int32} (h : JC N T μ ν a) (ho : o < tn (a 0 22)) (hv : rpWhy a o x y = v) (h0 : v = 2 ∨ v = 3) : f_L_replace w μ ν (nI o) x y = some ((μ, chg ν 1 6), if v = 2 then (-7200 : Int32) else (-7300 : Int32)) := by
  unfold f_L_replace
  rw [k_replaceX (JC_RR h) ho (by rw [hv]; omega), hv]
  rcases h0 with rfl | rfl <;> rfl
theorem jc_replaceY {w N T : Nat} {μ : MP} {ν : NC} {a : AS} {x y z : Int32} (h : JC N T μ ν a) (hx : x < 0 ∨ a 0 22 ≤ x) : f_L_replace w μ ν x y z = some ((μ, chg ν 1 6), (-7100 : Int32)) := by
  unfold f_L_replace
  rw [k_replaceY (JC_RR h) hx]
  rfl
theorem jc_rg {z : Nat} (z1 : 1 ≤ z) (z2 : z ≤ 100) : ¬ rgX (nI z) 1 100 := fun hh => hh.elim (fun h => by have := (nI_ltI (a := z) (b := 1) (by omega) (by decide)).mp h; omega) (fun h => by have := (nI_ltI (a := 100) (b := z) (by decide) (by omega)).mp h; omega)
theorem jc_replace {w N T o x y : Nat} {μ : MP} {ν : NC} {a : AS} (hN : N + 1 ≤ 512) (h : JC N T μ ν a) (ho : o < tn (a 0 22)) (hx1 : 1 ≤ x) (hx : x ≤ 100) (hy1 : 1 ≤ y) (hy : y ≤ 100) (hask : ¬ noAsk a o) : ∃ (μ' : MP) (ν' : NC), f_L_replace w μ ν (nI o) (nI x) (nI y) = some ((μ', ν'), a 30 o + nI 1) ∧ JC (N + 1) T μ' ν' (gReq a o (nI 7) (nI x) (nI y)) := by
  obtain ⟨n, l0, l1, k1, k2, k3, k4, k5⟩ := JC_d h
  have hn : sm8 (nb n 5) ≤ N + 1 := sm_nb (by decide) k1
  obtain ⟨hO, eO, e22⟩ := KA_O k2
  obtain ⟨μ', ν', e, hR, -, hb, hc⟩ := k_replace (w := w) k3 ho (jc_rg hx1 hx) (jc_rg hy1 hy) hask (KB_rm (by omega) k2 (by decide) (by decide))
  refine ⟨μ', ν', ?_, nb n 5, l0, l1, hn, KA_req (by omega) (by omega) (Or.inr rfl) (by omega) (by omega) k2, hR, ?_, hc _ _ k5⟩
  · unfold f_L_replace
    rw [e]
    rfl
  · show bal ν' _ ≤ _
    rw [hb]
    exact k4
/-- bust, correct -/
theorem jc_bustX {w N T e : Nat} {μ : MP} {ν : NC} {a : AS} (h : JC N T μ ν a) (he : e < tn (a 0 35)) (hb : ¬ a 43 (100 + e) = nI 0) : f_L_bust w μ ν (nI e) = some ((μ, chg ν 1 6), (-7300 : Int32)) := by
  unfold f_L_bust
  rw [k_bustX (JC_RR h) he hb]
  rfl
theorem jc_bustY {w N T : Nat} {μ : MP} {ν : NC} {a : AS} {x : Int32} (h : JC N T μ ν a) (hx : x < 0 ∨ a 0 35 ≤ x) : f_L_bust w μ ν x = some ((μ, chg ν 1 6), (-7100 : Int32)) := by
  unfold f_L_bust
  rw [k_bustY (JC_RR h) hx]
  rfl
theorem jc_bust {w N T e : Nat} {μ : MP} {ν : NC} {a : AS} (hN : N + 1 ≤ 512) (h : JC N T μ ν a) (he : e < tn (a 0 35)) (hb : a 43 (100 + e) = nI 0) : ∃ (μ' : MP) (ν' : NC), f_L_bust w μ ν (nI e) = some ((μ', ν'), a 27 (40 + tn (a 36 e)) - a 39 e) ∧ JC (N + 1) T μ' ν' (gBust a e) := by
  obtain ⟨n, l0, l1, k1, k2, k3, k4, k5⟩ := JC_d h
  have hn : sm8 (nb n 6) ≤ N + 1 := sm_nb (by decide) k1
  obtain ⟨μ', ν', e1, hR, -, hbl, hc⟩ := k_bust (w := w) k3 he hb (KB_rm (by omega) k2 (by decide) (by decide))
  refine ⟨μ', ν', ?_, nb n 6, l0, l1, hn, KA_bust (by omega) he hb k2, hR, ?_, hc _ _ k5⟩
  · unfold f_L_bust
    rw [e1]
    rfl
  · show bal ν' _ ≤ _
    rw [hbl]
    exact k4
theorem jc_correctX {w N T e v : Nat} {μ : MP} {ν : NC} {a : AS} {x : Int32} (h : JC N T μ ν a) (he : e < tn (a 0 35)) (hv : coWhy a e x = v) (h0 : v = 2 ∨ v = 3) : f_L_correct w μ ν (nI e) x = some ((μ, chg ν 1 6), if v = 2 then (-7200 : Int32) else (-7300 : Int32)) := by
  unfold f_L_correct
  rw [k_correctX (JC_RR h) he (by rw [hv]; omega), hv]
  rcases h0 with rfl | rfl <;> rfl
theorem jc_correctY {w N T : Nat} {μ : MP} {ν : NC} {a : AS} {x y : Int32} (h : JC N T μ ν a) (hx : x < 0 ∨ a 0 35 ≤ x) : f_L_correct w μ ν x y = some ((μ, chg ν 1 6), (-7100 : Int32)) := by
  unfold f_L_correct
  rw [k_correctY (JC_RR h) hx]
  rfl
theorem jc_correct {w N T e x : Nat} {μ : MP} {ν : NC} {a : AS} (hN : N + 1 ≤ 512) (h : JC N T μ ν a) (he : e < tn (a 0 35)) (hx1 : 1 ≤ x) (hx : x ≤ 100) (hb : a 43 (100 + e) = nI 0) : ∃ (μ' : MP) (ν' : NC), f_L_correct w μ ν (nI e) (nI x) = some ((μ', ν'), a 41 (100 + e)) ∧ JC (N + 1) T μ' ν' (gCorr a e (nI x)) := by
  obtain ⟨n, l0, l1, k1, k2, k3, k4, k5⟩ := JC_d h
  have hn : sm8 (nb n 6) ≤ N + 1 := sm_nb (by decide) k1
  obtain ⟨μ', ν', e1, hR, -, hbl, hc⟩ := k_correct (w := w) k3 he (jc_rg hx1 hx) hb (KB_rm (by omega) k2 (by decide) (by decide))
  refine ⟨μ', ν', ?_, nb n 6, l0, l1, hn, KA_corr (by omega) he (by omega) k2, hR, ?_, hc _ _ k5⟩
  · unfold f_L_correct
    rw [e1]
    rfl
  · show bal ν' _ ≤ _
    rw [hbl]
    exact k4
/-- quote -/
theorem jc_quoteX {w N T v d : Nat} {μ : MP} {ν : NC} {a : AS} {x y : Int32} (h : JC N T μ ν a) (hv : v < 3) (hd : d < 2) (hq : quWhy x y ≠ 0) : f_L_quote w μ ν (nI v) (nI d) x y = some ((μ, chg ν 1 6), (-7200 : Int32)) := by
  unfold f_L_quote
  rw [k_quoteX (JC_RR h) hv hd hq]
  rfl
theorem jc_quoteY {w N T d : Nat} {μ : MP} {ν : NC} {a : AS} {z x y : Int32} (h : JC N T μ ν a) (hz : z < 0 ∨ nI 3 ≤ z) (hd : d < 2) : f_L_quote w μ ν z (nI d) x y = some ((μ, chg ν 1 6), (-7100 : Int32)) := by
  unfold f_L_quote
  rw [k_quoteY (JC_RR h) hz hd]
  rfl
theorem jc_quote {w N T v d x y : Nat} {μ : MP} {ν : NC} {a : AS} (hw : 200 < w) (hN : N + 1 ≤ 512) (h : JC N T μ ν a) (hv : v < 3) (hd : d < 2) (hx1 : 1 ≤ x) (hx : x ≤ 100) (hy : y ≤ 200) : ∃ (μ' : MP) (ν' : NC) (p : Nat → Nat) (K : Nat), rl a (fun i => p i + 1) K d ∧ K ≤ 40 ∧ f_L_quote w μ ν (nI v) (nI d) (nI x) (nI y) = some ((μ', ν'), gQuote a v d (nI x) (nI y) p K 0 35 - a 0 35) ∧ JC (N + 1) T μ' ν' (gQuote a v d (nI x) (nI y) p K) := by
  obtain ⟨n, l0, l1, k1, k2, k3, k4, k5⟩ := JC_d h
  have hn : sm8 (nb n 6) ≤ N + 1 := sm_nb (by decide) k1
  obtain ⟨K, -, w2, -, -, w5⟩ := rl_of k3 hd
  have hP : ∀ i, i < K → μ.2 5 (3 + d) i = (μ.2 5 (3 + d) i - 1) + 1 := fun i hi => by
    obtain ⟨o, o1, -⟩ := w5.1 i hi
    omega
  have hp : rl a (fun i => (μ.2 5 (3 + d) i - 1) + 1) K d := by
    obtain ⟨r1, r2, r3⟩ := w5
    refine ⟨fun i hi => ?_, fun o o1 o2 o3 => ?_, fun i j hij hj => ?_⟩
    · obtain ⟨o, o1, o2⟩ := r1 i hi
      exact ⟨o, (hP i hi).symm.trans o1, o2⟩
    · obtain ⟨i, hi, e⟩ := r2 o o1 o2 o3
      exact ⟨i, hi, (hP i hi).symm.trans e⟩
    · have := r3 i j hij hj
      show aheadR _ _ _ (μ.2 5 (3 + d) i - 1 + 1 - 1) (μ.2 5 (3 + d) j - 1 + 1 - 1)
      rw [Nat.add_sub_cancel, Nat.add_sub_cancel]
      exact this
  have hy0 : ¬ rgX (nI y) 0 200 := fun hh => hh.elim (fun h => by have := (nI_ltI (a := y) (b := 0) (by omega) (by decide)).mp h; omega) (fun h => by have := (nI_ltI (a := 200) (b := y) (by decide) (by omega)).mp h; omega)
  obtain ⟨q1, q2⟩ := KA_quote (v := v) (x := x) (y := y) (p := fun i => μ.2 5 (3 + d) i - 1) (by omega) hd (by omega) (by omega) w2 hp k2
  obtain ⟨μ', ν', e, hR, -, hb, hc⟩ := k_quote (w := w) (x := nI x) (y := nI y) k3 hv hd (jc_rg hx1 hx) hy0 hp q2 hw
  refine ⟨μ', ν', fun i => μ.2 5 (3 + d) i - 1, K, hp, w2, ?_, nb n 6, l0, l1, hn, q1, hR, ?_, hc _ _ k5⟩
  · unfold f_L_quote
    rw [e]
    rfl
  · show bal ν' _ ≤ _
    rw [hb]
    exact k4
