/-! trades: a quote, all its turns -/
variable {Hh Hg : Nat → Nat}
theorem lk_turns {w K d O K0 R x16 x19 x20 x21 : Nat} {p : Nat → Nat} {μ : MP} {ν : NC} (hw : 100 < w) (hd : d < 2) (hO10 : O ≤ 10) (hKO : K ≤ O) : ∀ (e τ n j E : Nat) (b A : AS), τ + e = O → e < n → j ≤ K → (j = τ ∨ (j = K ∧ K ≤ τ)) → LR Hh b A → rlP A p K d → MI K0 O E R A → A 0 22 = nI O → (A 0 2 = nI 0 ∨ A 0 2 = nI 1) → tn (A 4 1) ≤ 19 + j → tn (A 20 0) ≤ 90 + j → lgN A 0 ≤ 19 → E + phi A ≤ 60 → ∃ b', l_L_trades_780 w n μ ν b (nI x16) (nI d) (nI x19) (nI x20) (nI x21) (nI (dnM p j)) (nI τ) = (f_L_quote w μ ν (nI x19) (nI d) (nI x16) (nI x20)).bind (fun v46 => b_L_trades_1001 w v46.1.1 v46.1.2 b' (nI x21) v46.2) ∧ LR Hh b' (gQL p (K - j) j A) := by
  intro e
  induction e with
  | zero =>
    intro τ n j E b A h1 h2 hj hjt h hr hM h22 hu h4 h20 hl hphi
    obtain ⟨n, rfl⟩ : ∃ n', n = n' + 1 := ⟨n - 1, by omega⟩
    have ej : K - j = 0 := by omega
    rw [ej]
    refine ⟨b, ?_, h⟩
    have r18 : b 1 18 = nI O := h.2.1.2.2.1.trans h22
    show b_L_trades_780 _ w μ ν b _ _ _ _ _ _ _ = _
    unfold b_L_trades_780
    rw [show ixB (18 : Int32) 22 = true from rfl, show (18 : Int32).toNatClampNeg = 18 from rfl, r18, if_pos ((nI_leI (by omega) (by omega)).mpr (by omega))]
    rfl
  | succ e ih =>
    intro τ n j E b A h1 h2 hj hjt h hr hM h22 hu h4 h20 hl hphi
    obtain ⟨n, rfl⟩ : ∃ n', n = n' + 1 := ⟨n - 1, by omega⟩
    have r18 : b 1 18 = nI O := h.2.1.2.2.1.trans h22
    have hp : ∀ m, m < K → p m < O := fun m hm => by have := (hr.1 m hm).1; rw [h22, tnI (by omega)] at this; exact this
    obtain ⟨nx', q1, q2⟩ := lk_scan (w := w) (x16 := x16) (x18 := d) (x19 := x19) (x20 := x20) (x21 := x21) (x23 := τ) (k780 := l_L_trades_780 w n) (μ := μ) (ν := ν) h hd rfl hr h22 hO10 rfl hj O 0 w (-1 : Int32) (by omega) (by omega) (Or.inl ⟨rfl, fun m _ _ => Nat.not_lt_zero _⟩)
    have e780 : l_L_trades_780 w (n + 1) μ ν b (nI x16) (nI d) (nI x19) (nI x20) (nI x21) (nI (dnM p j)) (nI τ) = l_L_trades_796 (l_L_trades_780 w n) w w μ ν b (nI x16) (nI d) (nI x19) (nI x20) (nI x21) (nI (dnM p j)) (nI τ) (-1 : Int32) (nI 0) := by
      show b_L_trades_780 (l_L_trades_780 w n) w μ ν b _ _ _ _ _ _ _ = _
      unfold b_L_trades_780
      rw [show ixB (18 : Int32) 22 = true from rfl, show (18 : Int32).toNatClampNeg = 18 from rfl, r18, if_neg (fun z => by have := (nI_leI (by omega) (by omega)).mp z; omega)]
      rfl
    have e983 : ∀ (b1 : AS) (dn : Int32), b_L_trades_983 (l_L_trades_780 w n) w μ ν b1 (nI x16) (nI d) (nI x19) (nI x20) (nI x21) dn (nI τ) = l_L_trades_780 w n μ ν b1 (nI x16) (nI d) (nI x19) (nI x20) (nI x21) dn (nI (τ + 1)) := fun b1 dn => by
      unfold b_L_trades_983
      rw [show nI τ + (1 : Int32) = nI (τ + 1) from nI_add τ 1]
      rfl
    rw [e780, q2]
    rcases q1 with ⟨z1, z2⟩ | ⟨m, m1, m2, m3, m4, m5⟩
    · have hjK : j = K := Classical.byContradiction (fun hne => z2 j (Nat.le_refl _) (by omega) (hp j (by omega)))
      rw [z1, if_neg (show ¬ (0 : Int32) ≤ (-1 : Int32) by decide), e983]
      exact ih (τ + 1) n j E b A (by omega) (by omega) hj (Or.inr ⟨hjK, by omega⟩) h hr hM h22 hu h4 h20 hl hphi
    · have hmj : m = j := Classical.byContradiction (fun hne => m5 j (Nat.le_refl _) (by omega) (hp j (by omega)))
      subst hmj
      have hpm : p m < O := hp m m2
      obtain ⟨t1, t2, t3⟩ := hr.1 m m2
      obtain ⟨b1, f1, f2, f3⟩ := lk_route (w := w) (o := p m) h hM hw hpm t2 hu (by omega) (by omega) hphi
      have hS := LR_rgo h (show 1 < 2 by decide)
      obtain ⟨E', -, mr⟩ := MI_routes (o := p m) (S := tn (A 4 1)) hpm t2 hS.1 (by omega) (by omega) hM
      have rq : ∀ k i, (k = 23 ∨ k = 24 ∨ k = 25 ∨ k = 26 ∨ k = 28 ∨ k = 31 ∨ (k = 0 ∧ i ≠ 35)) → gRoutes A (p m) k i = A k i := fun k i hk => gRoutes_q A (p m) k i hk
      have bd := routes_bd A (p m)
      have e35 : tn (gRoutes A (p m) 0 35) = E' := (MI_O mr).2.1
      have l4 : gRoutes A (p m) 4 0 = A 4 0 := by
        have : ∀ s : Nat, s = 0 → gRoutes A (p m) 4 s = A 4 s := fun s hs => by
          subst hs
          unfold gRoutes gRep
          split
          · exact gRouteL_k _ _ _ _ _ (by decide) (by decide) (by decide) (by decide)
          · rw [gS_4 _ _ _ _ _ _ _ (by decide)]
            exact gRouteL_k _ _ _ _ _ (by decide) (by decide) (by decide) (by decide)
        exact this 0 rfl
      have hdone : nI (dnM p m) ||| ((1 : Int32) <<< (nI (p m) &&& 31)) = nI (dnM p (m + 1)) := by
        have hb1 : dnM p m < 2 ^ 10 := dnM_lt m (fun i hi => by have := hp i (by omega); omega)
        have hb2 : 2 ^ p m < 2 ^ 10 := Nat.pow_lt_pow_right (by decide) (by omega)
        rw [show (1 : Int32) = nI 1 from rfl, I_shl 1 (p m) (by omega), Nat.one_mul, I_lor _ _ (by omega) (by omega)]
        rfl
      rw [m4, if_pos (show (0 : Int32) ≤ nI (p m) from (nI_leI (a := 0) (b := p m) (by decide) (by omega)).mpr (Nat.zero_le _)), f1, Option.bind_some, e983, hdone]
      have eQ : gQL p (K - m) m A = gQL p (K - (m + 1)) (m + 1) (gRoutes A (p m)) := by
        rw [show K - m = (K - (m + 1)) + 1 by omega]
        rfl
      rw [eQ]
      exact ih (τ + 1) n (m + 1) E' b1 (gRoutes A (p m)) (by omega) (by omega) m2 (by omega) f2 (rlP_c hr (rq 0 22 (by omega)) (funext fun i => rq 23 i (by omega)) (funext fun i => rq 24 i (by omega)) (funext fun i => rq 25 i (by omega)) (funext fun i => rq 31 i (by omega))) mr ((rq 0 22 (by omega)).trans h22) (by rw [rq 0 2 (by omega)]; exact hu) (by omega) (by omega) (by unfold lgN at hl ⊢; rw [l4]; exact hl) (by rw [← e35]; exact f3)
theorem tr_quote {w N T d x z : Nat} {v2 v3 : Int32} {μ : MP} {ν : NC} {b a : AS} (hw : 8200 < w) (hN : N + 1 ≤ 512) (hd : d < 2) (hx1 : 1 ≤ x) (hx : x ≤ 100) (hz1 : 1 ≤ z) (hz : z ≤ 201) (hJ : JC N T μ ν a) (h : LR Zh b a) (h4 : ∀ t, t < 2 → tn (a 4 t) ≤ 19) (h20 : ∀ t, t < 2 → tn (a 20 t) ≤ 90) (hE : tn (a 0 35) ≤ 40) : lnR (N + 1) (T + 5) ((f_L_low w b v2 (3 : Int32)).bind (fun v34 => b_L_trades_647 w μ ν b (nI x) (nI d) v34 (nI z) v3)) := by
  obtain ⟨v, hv, el⟩ := lk_low w b v2 (show 1 ≤ 3 by decide) (show 3 < 2 ^ 31 by decide)
  obtain ⟨y, hy, el2⟩ := lk_low w b v3 hz1 (show z < 2 ^ 31 by omega)
  have J1 := JC_thr hJ
  have J2 := JC_thr J1
  have J3 := JC_thr J2
  have J4 := JC_thr J3
  have J5 := JC_thr J4
  rw [show (3 : Int32) = nI 3 from rfl, el, Option.bind_some]
  unfold b_L_trades_647
  rw [el2, Option.bind_some, show (3 : Int32) = nI 3 from rfl, jc_quoteY hJ (Or.inr (Int32.le_refl _)) hd, Option.bind_some]
  unfold b_L_trades_661
  rw [if_pos rfl, jc_quoteX J1 hv hd (show quWhy (0 : Int32) (nI y) ≠ 0 by unfold quWhy; rw [if_pos rgX_0]; decide), Option.bind_some]
  unfold b_L_trades_678
  rw [if_pos rfl, jc_quoteX J2 hv hd (show quWhy (101 : Int32) (nI y) ≠ 0 by unfold quWhy; rw [if_pos rgX_101]; decide), Option.bind_some]
  unfold b_L_trades_696
  rw [if_pos rfl, jc_quoteX J3 hv hd (show quWhy (nI x) (201 : Int32) ≠ 0 by unfold quWhy; rw [if_neg (jc_rg hx1 hx), if_pos (Or.inr (by decide))]; decide), Option.bind_some]
  unfold b_L_trades_715
  rw [if_pos rfl, jc_quoteX J4 hv hd (show quWhy (nI x) (-1 : Int32) ≠ 0 by unfold quWhy; rw [if_neg (jc_rg hx1 hx), if_pos (Or.inl (by decide))]; decide), Option.bind_some]
  unfold b_L_trades_732
  rw [if_pos rfl]
  obtain ⟨μ', ν', p, K, hrl, hK40, e1, e2⟩ := jc_quote (w := w) (v := v) (x := x) (y := y) (by omega) hN J5 hv hd hx1 hx (by omega)
  have hrP := rlP_of hrl
  obtain ⟨O, eO, hO10⟩ := LR_O h
  have eOt : tn (a 0 22) = O := by rw [eO, tnI (by omega)]
  have hKO : K ≤ O := pig O K p (fun i hi => by have := (hrP.1 i hi).1; rw [eOt] at this; exact this) (fun i j hij hj => rlP_inj hrP i j hij hj)
  obtain ⟨K0, O', E, R, hK0, mi⟩ := JC_MI (by omega) hJ
  have eOO : O' = O := by have := (MI_O mi).1; omega
  subst eOO
  have e35 : tn (a 0 35) = E := (MI_O mi).2.1
  have hsv := JC_sv hJ
  have hq6 : 2 * v + d < 6 := by omega
  -- the quote is set
  have hM0 := MI_quo0 (v := v) (d := d) (x := x) (y := y) (by omega) (by omega) mi
  have hL0 : LR Zh (up2 b 14 (2 * v + d) (nI (y + 256 * x))) (gQuo0 a v d (nI x) (nI y)) := by
    obtain ⟨l0, l1, l2, l3, l4, l5, l6, l7, l8⟩ := lr_00 (v := nI 0) h
    unfold gQuo0
    generalize up2 a 0 0 (nI 0) = a' at *
    refine lr_m ⟨l0, l1, l2, l3, l4, l5, l6, l7, l8⟩ (fun k k1 k2 => up2_k _ _ (by omega)) (fun k hk => by rw [up2_k _ _ (by omega), up2_k _ _ (by omega)]) l0 l1 l5 l6 l7 ?_
    refine L8_set (pr := x) (sz := y) l8 hx (by omega) rfl ?_ (fun i => ?_)
    · rfl
    · rfl
  have rQ : ∀ k i, k ≠ 33 → k ≠ 34 → ¬ (k = 0 ∧ i = 0) → gQuo0 a v d (nI x) (nI y) k i = a k i := fun k i k1 k2 k3 => by unfold gQuo0; rw [up2_n _ _ (by omega), up2_n _ _ (by omega), up2_n _ _ k3]
  have rQf : ∀ k, k ≠ 33 → k ≠ 34 → k ≠ 0 → gQuo0 a v d (nI x) (nI y) k = a k := fun k k1 k2 k3 => funext fun i => rQ k i k1 k2 (by omega)
  obtain ⟨b', t1, t2⟩ := lk_turns (w := w) (x16 := x) (x19 := v) (x20 := y) (x21 := E) (μ := μ) (ν := chg (chg (chg (chg (chg ν 1 6) 1 6) 1 6) 1 6) 1 6) (by omega) hd hO10 hKO O' 0 w 0 E (up2 b 14 (2 * v + d) (nI (y + 256 * x))) (gQuo0 a v d (nI x) (nI y)) (by omega) (by omega) (Nat.zero_le _) (Or.inl rfl) hL0 (rlP_c hrP (rQ 0 22 (by decide) (by decide) (by decide)) (rQf 23 (by decide) (by decide) (by decide)) (rQf 24 (by decide) (by decide) (by decide)) (rQf 25 (by decide) (by decide) (by decide)) (rQf 31 (by decide) (by decide) (by decide))) hM0 ((rQ 0 22 (by decide) (by decide) (by decide)).trans eO) (by rw [rQ 0 2 (by decide) (by decide) (by decide)]; exact hsv.2.1) (by rw [rQ 4 1 (by decide) (by decide) (by decide)]; exact h4 1 (by decide)) (by rw [rQ 20 0 (by decide) (by decide) (by decide)]; exact h20 0 (by decide)) (by unfold lgN; rw [rQ 4 0 (by decide) (by decide) (by decide)]; exact h4 0 (by decide)) (by have := phi_le (gQuo0 a v d (nI x) (nI y)); omega)
  have r19 : b 1 19 = nI E := h.2.1.2.2.2.1.trans (MI_O mi).2.2.2.2.1
  have e756 : ∀ s0 : Nat, s0 = d → b_L_trades_756 w μ (chg (chg (chg (chg (chg ν 1 6) 1 6) 1 6) 1 6) 1 6) b (nI x) (nI d) (nI v) (nI y) (nI s0) ((2 : Int32) * nI v) = some (((μ', ν'), b'), (1 : Int32)) := fun s0 es => by
    subst es
    unfold b_L_trades_756
    rw [show (2 : Int32) * nI v + nI s0 = nI (2 * v + s0) from by rw [show (2 : Int32) = nI 2 from rfl, I_mul, nI_add], ixn hq6 (by decide), nI_clamp (show 2 * v + s0 < 2 ^ 31 by omega), show nI y + (256 : Int32) * nI x = nI (y + 256 * x) from by rw [show (256 : Int32) = nI 256 from rfl, I_mul, nI_add], show ixB (19 : Int32) 22 = true from rfl, show (19 : Int32).toNatClampNeg = 19 from rfl]
    simp only [cond_true, yl]
    rw [show up2 b 14 (2 * v + s0) (nI (y + 256 * x)) 1 19 = nI E from (up2_n _ _ (by omega)).trans r19]
    rw [show l_L_trades_780 w w μ (chg (chg (chg (chg (chg ν 1 6) 1 6) 1 6) 1 6) 1 6) (up2 b 14 (2 * v + s0) (nI (y + 256 * x))) (nI x) (nI s0) (nI v) (nI y) (nI E) (0 : Int32) (0 : Int32) = _ from t1, e1, Option.bind_some]
    unfold b_L_trades_1001
    rw [show ixB (19 : Int32) 22 = true from rfl, show (19 : Int32).toNatClampNeg = 19 from rfl]
    dsimp only
    have f19 : b' 1 19 = gQL p (K - 0) 0 (gQuo0 a v s0 (nI x) (nI y)) 0 35 := t2.2.1.2.2.2.1
    have f19' : gQuote a v s0 (nI x) (nI y) p K 0 35 - a 0 35 = b' 1 19 - nI E := by
      rw [f19, Nat.sub_zero, (MI_O mi).2.2.2.2.1]
      rfl
    rw [if_pos f19']
    rfl
  have hfin : lnR (N + 1) (T + 5) (some (((μ', ν'), b'), (1 : Int32))) := ⟨μ', ν', b', _, rfl, e2, t2⟩
  rcases (show d = 0 ∨ d = 1 by omega) with rfl | rfl
  · rw [if_pos (show nI 0 = (0 : Int32) from rfl), show b_L_trades_756 w μ (chg (chg (chg (chg (chg ν 1 6) 1 6) 1 6) 1 6) 1 6) b (nI x) (nI 0) (nI v) (nI y) (0 : Int32) ((2 : Int32) * nI v) = _ from e756 0 rfl]
    exact hfin
  · rw [if_neg (show ¬ nI 1 = (0 : Int32) by decide), show b_L_trades_756 w μ (chg (chg (chg (chg (chg ν 1 6) 1 6) 1 6) 1 6) 1 6) b (nI x) (nI 1) (nI v) (nI y) (1 : Int32) ((2 : Int32) * nI v) = _ from e756 1 rfl]
    exact hfin
