/-! lines -/
def Zh : Nat → Nat := fun _ => 0
theorem I_low1 (y : Int32) : ∃ s : Nat, s < 2 ∧ y &&& (1 : Int32) = nI s := by
  refine ⟨y.toBitVec.toNat % 2, Nat.mod_lt _ (by decide), I_ext ?_⟩
  show y.toBitVec &&& BitVec.ofNat 32 1 = BitVec.ofNat 32 (y.toBitVec.toNat % 2)
  apply BitVec.eq_of_toNat_eq
  have := Nat.mod_lt y.toBitVec.toNat (show 0 < 2 by decide)
  rw [BitVec.toNat_and, BitVec.toNat_ofNat, BitVec.toNat_ofNat, Nat.mod_eq_of_lt (show 1 < 2 ^ 32 by decide), Nat.and_one_is_mod, Nat.mod_eq_of_lt (show y.toBitVec.toNat % 2 < 2 ^ 32 by omega)]
theorem JC_sv {N T : Nat} {μ : MP} {ν : NC} {a : AS} (h : JC N T μ ν a) : sv a := by
  obtain ⟨n, l0, l1, k1, k2, k3, k4, k5⟩ := JC_d h
  exact k2.1.1
theorem JC_MI {N T : Nat} {μ : MP} {ν : NC} {a : AS} (hN : N ≤ 512) (h : JC N T μ ν a) : ∃ K O E R : Nat, K ≤ 1000 ∧ MI K O E R a := by
  obtain ⟨n, l0, l1, k1, k2, k3, k4, k5⟩ := JC_d h
  obtain ⟨-, -, -, ⟨E, R, m⟩, -⟩ := k2
  unfold sm8 at k1
  exact ⟨_, _, E, R, by omega, m⟩
theorem JC_T {N T : Nat} {μ : MP} {ν : NC} {a : AS} (hN : N ≤ 512) (h : JC N T μ ν a) : tn (a 0 1) ≤ 25600 := by
  obtain ⟨n, l0, l1, k1, k2, k3, k4, k5⟩ := JC_d h
  obtain ⟨-, -, -, -, h5⟩ := k2
  unfold sm8 at k1
  omega
theorem JC_CI {N T s : Nat} {μ : MP} {ν : NC} {a : AS} (hN : N + 1 ≤ 512) (hs : s < 2) (h : JC N T μ ν a) : ∃ (n : Nat → Nat) (l0 l1 K O : Nat), sm8 n ≤ 512 ∧ n 4 ≤ 40 ∧ K ≤ 1000 ∧ CI n l0 l1 K O s (up2 a 0 0 (nI 0)) (up2 a 0 0 (nI 0)) := by
  obtain ⟨n, l0, l1, k1, k2, k3, k4, k5⟩ := JC_d h
  have hn : sm8 (nb n (1 + s)) ≤ N + 1 := sm_nb (by omega) k1
  obtain ⟨hO, -⟩ := KA_O k2
  have h' := KA_00 (v := nI 0) k2
  generalize up2 a 0 0 (nI 0) = b at h' ⊢
  obtain ⟨h1, h2, h3, ⟨E, R, m⟩, h5⟩ := h'
  have hO' : nb n (1 + s) 4 ≤ 40 := by rw [nb_o (by omega)]; exact hO
  refine ⟨nb n (1 + s), l0, l1, n 4 + n 5, n 4, by omega, hO', ?_, SI_bCome hs h1, h3 s hs, ⟨E, R, m⟩, oth_refl b s, Or.inl (fun _ _ => rfl)⟩
  unfold sm8 at k1
  omega
/-- what lines answers -/
def lnR (N T : Nat) (x : Option (((MP × NC) × AS) × Int32)) : Prop := ∃ (μ' : MP) (ν' : NC) (b' a' : AS), x = some (((μ', ν'), b'), (1 : Int32)) ∧ JC N T μ' ν' a' ∧ LR Zh b' a'
theorem ln_con {w N T : Nat} {v : Int32} {μ : MP} {ν : NC} {b a : AS} (hw : 8200 < w) (hN : N + 1 ≤ 512) (hJ : JC N T μ ν a) (h : LR Zh b a) (hd : a 0 2 = nI 0) (h4 : ∀ t, t < 2 → tn (a 4 t) ≤ 19) (h20 : ∀ t, t < 2 → tn (a 20 t) ≤ 90) : lnR (N + 1) (T + 1) (b_L_lines_79 w μ (chg ν 1 6) b v (-7300 : Int32)) := by
  have hJ1 := JC_thr hJ
  have key : ∀ z : Bool, lnR (N + 1) (T + 1) ((f_L_up w b (if z then (1 : Int32) else 0)).bind (fun v47 => b_L_lines_125 w μ (chg ν 1 6) v47.1 (if z then (1 : Int32) else 0))) := fun z => by
    obtain ⟨b1, u1, u2⟩ := lk_up (w := w) (z := z) h hd (by omega) (fun s hs _ => by have := h4 s hs; omega) (fun s hs => by have := h20 s hs; omega)
    obtain ⟨μ', ν', c1, c2⟩ := jc_con (w := w) z hN hJ1 hd
    refine ⟨μ', ν', b1, gConnect a z, ?_, c2, u2⟩
    rw [u1, Option.bind_some]
    unfold b_L_lines_125
    rw [show (if z then (1 : Int32) else 0) = (if z then nI 1 else nI 0) from by cases z <;> rfl, c1, Option.bind_some]
    unfold b_L_lines_128
    rw [if_pos rfl]
  unfold b_L_lines_79
  rw [if_pos rfl]
  unfold b_L_lines_109
  by_cases c : v &&& (6 : Int32) = (0 : Int32)
  · rw [if_pos c]
    have := key true
    simp only [if_true] at this
    obtain ⟨μ', ν', b', a', e, r⟩ := this
    refine ⟨μ', ν', b', a', ?_, r⟩
    rw [← e]
    congr 1
    funext v47
    rw [if_pos c]
  · rw [if_neg c]
    have := key false
    simp only [Bool.false_eq_true, if_false] at this
    obtain ⟨μ', ν', b', a', e, r⟩ := this
    refine ⟨μ', ν', b', a', ?_, r⟩
    rw [← e]
    congr 1
    funext v47
    rw [if_neg c]
theorem ln_come {w N T s : Nat} {μ : MP} {ν : NC} {b a : AS} (hw : 8200 < w) (hN : N + 1 ≤ 512) (hs : s < 2) (hJ : JC N T μ ν a) (h : LR Zh b a) (h4 : ∀ t, t < 2 → tn (a 4 t) ≤ 19) (h20 : ∀ t, t < 2 → tn (a 20 t) ≤ 90) (hE : tn (a 0 35) ≤ 40) : lnR (N + 1) (T + 4) ((f_L_come w μ ν (2 : Int32) (0 : Int32)).bind (fun v37 => b_L_lines_149 w v37.1.1 v37.1.2 b (nI s) v37.2)) := by
  have J1 := JC_thr hJ
  have J2 := JC_thr J1
  have J3 := JC_thr J2
  have J4 := JC_thr J3
  rw [jc_comeX hJ (show (2 : Int32) ≠ nI 0 ∧ (2 : Int32) ≠ nI 1 by decide), Option.bind_some]
  unfold b_L_lines_149
  rw [if_pos rfl, jc_comeX J1 (show (-1 : Int32) ≠ nI 0 ∧ (-1 : Int32) ≠ nI 1 by decide), Option.bind_some]
  unfold b_L_lines_161
  rw [if_pos rfl, jc_comeY J2 hs (Or.inl (by decide)), Option.bind_some]
  unfold b_L_lines_174
  rw [if_pos rfl, jc_comeY J3 hs (Or.inr (by decide)), Option.bind_some]
  unfold b_L_lines_188
  obtain ⟨-, -, -, -, -, -, -, -, r16⟩ := LR_1 h hs
  rw [if_pos rfl, show (16 : Int32) + nI s = nI (16 + s) from nI_add 16 s, ixn (show 16 + s < 22 by omega) (by decide), nI_clamp (show 16 + s < 2 ^ 31 by omega), r16]
  simp only [cond_true]
  obtain ⟨-, -, -, -, -, -, ⟨c, e20, hc⟩, -⟩ := (JC_sv hJ).2.2 s hs |>.2 |> fun z => (⟨trivial, trivial, trivial, trivial, trivial, trivial, z.2.2.2.2.1, trivial⟩ : True ∧ True ∧ True ∧ True ∧ True ∧ True ∧ (∃ c : Nat, a 20 s = nI c ∧ c ≤ 65536) ∧ True)
  have ec : tn (a 20 s) = c := by rw [e20, tnI (by omega)]
  by_cases c0 : a 20 s = (0 : Int32)
  · have cc : c = 0 := by rw [← ec, c0]; rfl
    rw [if_pos c0]
    obtain ⟨μ', ν', g1, g2⟩ := jc_come (w := w) (t := 100) hw hN J4 hs (by decide) (by decide)
    rw [ec, cc] at g1 g2
    rw [show (100 : Int32) = nI 100 from rfl, g1, Option.bind_some]
    unfold b_L_lines_215
    rw [if_pos (show nI (min 0 100) = (0 : Int32) from rfl)]
    exact ⟨μ', ν', b, _, rfl, g2, lr_00 h⟩
  · have c1 : 1 ≤ c := Nat.pos_of_ne_zero (fun z => c0 (by rw [e20, z]; rfl))
    rw [if_neg c0]
    obtain ⟨n, l0, l1, K, O, n1, n2, n3, n4⟩ := JC_CI hN hs J4
    have h0 := lr_00 (v := nI 0) h
    have r : ∀ k i, ¬ (k = 0 ∧ i = 0) → up2 a 0 0 (nI 0) k i = a k i := fun k i hk => up2_n _ _ hk
    obtain ⟨b', o1, o2, o3⟩ := lk_one (w := w) n1 n2 hs n3 (by omega) h0 (fun _ _ => rfl) n4 (by rw [r 20 _ (by omega), ec]; exact c1) (by
      have := phi_le (up2 a 0 0 (nI 0))
      rw [r 0 35 (by omega)]
      omega) (fun t ht => by rw [r 4 _ (by omega)]; exact h4 t ht) (fun t ht => by rw [r 20 _ (by omega)]; exact h20 t ht)
    obtain ⟨μ', ν', g1, g2⟩ := jc_come (w := w) (t := 1) hw hN J4 hs (by decide) (by decide)
    rw [ec, show min c 1 = 1 by omega] at g1 g2
    rw [o1, Option.bind_some, show (1 : Int32) = nI 1 from rfl, g1, Option.bind_some]
    unfold b_L_lines_264
    rw [if_pos (show nI 1 = (1 : Int32) from rfl)]
    exact ⟨μ', ν', b', _, rfl, g2, o2⟩
theorem ln_354 {w N T s : Nat} {μ : MP} {ν : NC} {b a : AS} (hs : s < 2) (hJ : JC N T μ ν a) (h : LR Zh b a) : lnR N (T + 1) (b_L_lines_354 w μ ν b (nI s)) := by
  obtain ⟨q, c, H, -, e19, hH, e20, hc, -⟩ := h.2.2.1 s hs
  unfold b_L_lines_354
  rw [jc_garbleX hJ (Or.inr ⟨s, hs, rfl, Or.inr (by rw [e20]; exact (nI_leI (a := c) (b := 2147483647) (by omega) (by decide)).mpr (by omega))⟩), Option.bind_some]
  unfold b_L_lines_362
  rw [if_pos rfl]
  exact ⟨_, _, b, a, rfl, JC_thr hJ, h⟩
theorem ln_garble {w N T s place : Nat} {μ : MP} {ν : NC} {b a : AS} (hN : N + 1 ≤ 512) (hs : s < 2) (hJ : JC N T μ ν a) (h : LR Zh b a) (hp : place ≤ tn (a 20 s)) : lnR (N + 1) (T + 5) ((f_L_garble w μ ν (2 : Int32) (0 : Int32)).bind (fun v25 => b_L_lines_302 w v25.1.1 v25.1.2 b (nI s) (nI place) v25.2)) := by
  obtain ⟨q, c, H, hq, e19, hH, e20, hc, hk⟩ := h.2.2.1 s hs
  have ec : tn (a 20 s) = c := by rw [e20, tnI (by omega)]
  rw [ec] at hp
  have J1 := JC_thr hJ
  have J2 := JC_thr J1
  have J3 := JC_thr J2
  rw [jc_garbleX hJ (Or.inl (show (2 : Int32) ≠ nI 0 ∧ (2 : Int32) ≠ nI 1 by decide)), Option.bind_some]
  unfold b_L_lines_302
  rw [if_pos rfl, jc_garbleX J1 (Or.inr ⟨s, hs, rfl, Or.inl (by decide)⟩), Option.bind_some]
  obtain ⟨-, -, -, -, -, -, -, -, r16⟩ := LR_1 h hs
  have e16 : (16 : Int32) + nI s = nI (16 + s) := nI_add 16 s
  have i16 : ixB (nI (16 + s)) 22 = true := ixn (by omega) (by decide)
  have c16 : (nI (16 + s)).toNatClampNeg = 16 + s := nI_clamp (by omega)
  unfold b_L_lines_315
  rw [if_pos rfl, e16, i16, c16, r16, e20]
  simp only [cond_true]
  rw [jc_garbleX J2 (Or.inr ⟨s, hs, rfl, Or.inr (by rw [e20]; exact Int32.le_refl _)⟩), Option.bind_some]
  unfold b_L_lines_335
  rw [if_pos rfl, e16, i16, c16, r16, e20]
  simp only [cond_true]
  by_cases cp : place = c
  · rw [if_pos (show nI place = nI c by rw [cp])]
    obtain ⟨μ', ν', b', a', g1, g2, g3⟩ := ln_354 (w := w) hs J3 h
    exact ⟨μ', ν', b', a', g1, JC_le g2 (by omega) (by omega), g3⟩
  · rw [if_neg (show ¬ nI place = nI c from Ieq (by omega) (by omega) cp)]
    have hpc : place < c := by omega
    obtain ⟨x, f, g, hx, hf, hg, qp, ap⟩ := hk place hpc
    have hj : lnB (2 + s) 64 = true := by rcases (show s = 0 ∨ s = 1 by omega) with rfl | rfl <;> decide
    have g0 := f_get (w := w) hj hq (show place < 256 by omega)
    have ew : (nI (q place) &&& (8191 : Int32)) ||| (8192 : Int32) = nI (x + 64 * f + 8192) := by
      rw [qp, show (8191 : Int32) = nI (2 ^ 13 - 1) from rfl, I_and _ 13 (by omega) (by decide), show (x + 64 * f + 8192 * g) % 2 ^ 13 = x + 64 * f by omega]
      have := I_ins 0 (x + 64 * f) 1 13 1 (by omega) (by decide) (by omega)
      rw [Nat.mul_zero, Nat.zero_add, Nat.zero_add, Nat.one_mul] at this
      rw [show (8192 : Int32) = nI (2 ^ 13) from rfl, this]
      congr 1
      omega
    obtain ⟨V, s1, s2⟩ := f_set (w := w) (v := x + 64 * f + 8192) hj hq (show place < 256 by omega) (by omega)
    obtain ⟨μ', t1, t2⟩ := jc_garble (w := w) hN J3 hs (k := place) (by rw [ec]; exact hpc)
    have epl : pl a s place = 65536 * s + (H + place) % 65536 := by unfold pl; rw [e19, tnI (by omega)]
    have eans : nI (tn (a 21 (pl a s place)) / 2 / 8192) = nI x := by
      rw [epl, ap, tnI (by omega)]
      congr 1
      omega
    rw [eans] at t1
    have hG := lr_gar (b' := wLg b (2 + s) (place / 4) V) hs h s2 e19 hH e20 hc hpc hk hx hf hg ap (fun j hj => wLg_k hj)
    have g2' := f_get (w := w) hj s2 (show place < 256 by omega)
    rw [up1_s] at g2'
    have key : lnR (N + 1) (T + 5) (b_L_lines_386 w μ (chg (chg (chg ν 1 6) 1 6) 1 6) b (nI s) (nI place) (2 + s)) := by
      refine ⟨μ', chg (chg (chg ν 1 6) 1 6) 1 6, wLg b (2 + s) (place / 4) V, _, ?_, JC_le t2 (Nat.le_refl _) (by omega), hG⟩
      unfold b_L_lines_386
      rw [hj, g0, Option.bind_some, ew, s1, Option.bind_some, t1, Option.bind_some]
      simp only [cond_true]
      unfold b_L_lines_418
      rw [hj, g2', Option.bind_some]
      simp only [cond_true]
      rw [if_pos (show nI x = nI (x + 64 * f + 8192) &&& (63 : Int32) from by
        rw [show (63 : Int32) = nI (2 ^ 6 - 1) from rfl, I_and _ 6 (by omega) (by decide)]; congr 1; omega)]
    rcases (show s = 0 ∨ s = 1 by omega) with rfl | rfl
    · rw [if_pos (show nI 0 = (0 : Int32) from rfl)]; exact key
    · rw [if_neg (show ¬ nI 1 = (0 : Int32) by decide)]; exact key
theorem ln_pass {w N T z : Nat} {v : Int32} {μ : MP} {ν : NC} {b a : AS} (hw : 8200 < w) (hN : N + 1 ≤ 512) (hz1 : 1 ≤ z) (hz : z ≤ 26) (hJ : JC N T μ ν a) (h : LR Zh b a) (h4 : ∀ t, t < 2 → tn (a 4 t) ≤ 19) (h20 : ∀ t, t < 2 → tn (a 20 t) ≤ 90) : lnR (N + 1) (T + 2) (b_L_lines_453 w μ ν b (nI z) v (1 : Int32)) := by
  obtain ⟨r, hr, el⟩ := lk_low w b v hz1 (show z < 2 ^ 31 by omega)
  have J1 := JC_thr hJ
  have J2 := JC_thr J1
  have hv := JC_sv hJ
  have hT := JC_T (by omega) hJ
  have e : ∀ k i, ¬ (k = 0 ∧ i = 0) → up2 a 0 0 (nI 0) k i = a k i := fun k i hk => up2_n _ _ hk
  have hU : UP (up2 a 0 0 (nI 0)) := fun t ht => by
    rw [e 3 _ (by omega), e 0 2 (by omega)]
    intro c3
    have := (hv.2.2 t ht).2.2.2.2.2.2.2.2.1 c3
    exact hv.2.1.resolve_left this
  have hTS : ∀ s, s < 2 → TS 15 0 (fun s => tn (a 4 s)) (up2 a 0 0 (nI 0)) s := fun s hs => by
    obtain ⟨T0, eT, hT0⟩ := hv.1
    have v4 := (hv.2.2 s hs).2.2.2.1
    obtain ⟨L, eL, hL⟩ := v4 9 (by omega)
    obtain ⟨H, eH, hH⟩ := v4 10 (by omega)
    rw [eT, tnI (by omega)] at hL hH
    refine ⟨T0, L, H, 0, 0, (e 0 1 (by omega)).trans eT, by omega, (e 9 s (by omega)).trans eL, hL, (e 10 s (by omega)).trans eH, hH, by decide, fun c => absurd c (by decide), ?_, by omega⟩
    rw [e 4 s (by omega)]
    exact Nat.le_refl _
  obtain ⟨b', t1, t2, t3⟩ := lk_ticks (w := w) (t := 1 + r) (C := fun s => tn (a 4 s)) (μ := μ) (ν := ν) (by omega) (by omega) (fun s hs => h4 s hs) (1 + r) 0 w 0 b (up2 a 0 0 (nI 0)) (by omega) (by omega) (lr_00 h) (up2_s _ _ _ _) hU hTS (fun s hs => by rw [e 20 s (by omega)]; have := h20 s hs; omega) (by rw [e 0 1 (by omega)]; omega)
  obtain ⟨μ', ν', p1, p2⟩ := jc_pass (w := w) (t := 1 + r) hw hN J2 (by omega) (by omega)
  unfold b_L_lines_453
  rw [el, Option.bind_some, show (1 : Int32) + nI r = nI (1 + r) from nI_add 1 r]
  simp only [yl]
  refine ⟨μ', ν', b', (gPass a (1 + r)).1, ?_, p2, t2⟩
  rw [show l_L_lines_465 w w μ ν b (nI (1 + r)) (0 : Int32) (0 : Int32) = _ from t1, jc_passX hJ (Or.inl (by decide)), Option.bind_some]
  unfold b_L_lines_629
  rw [if_pos rfl, jc_passX J1 (Or.inr (by decide)), Option.bind_some]
  unfold b_L_lines_641
  rw [if_pos rfl, p1, Option.bind_some]
  unfold b_L_lines_653
  show (if nI (gPass a (1 + r)).2 = nI (gPass a (1 + r)).2 then some (((μ', ν'), b'), (1 : Int32)) else some (((μ', ν'), b'), (0 : Int32))) = _
  rw [if_pos rfl]
theorem lk_lines {w N T act : Nat} {y v : Int32} {μ : MP} {ν : NC} {b a : AS} (hw : 8200 < w) (hN : N + 1 ≤ 512) (hact : act < 10) (hJ : JC N T μ ν a) (h : LR Zh b a) (h4 : ∀ t, t < 2 → tn (a 4 t) ≤ 19) (h20 : ∀ t, t < 2 → tn (a 20 t) ≤ 90) (hE : tn (a 0 35) ≤ 40) : lnR (N + 1) (T + 8) (f_L_lines w μ ν b (nI act) y v) := by
  have wk : ∀ {N' T' : Nat} {x : Option (((MP × NC) × AS) × Int32)}, N' ≤ N + 1 → T' ≤ T + 8 → lnR N' T' x → lnR (N + 1) (T + 8) x := fun g1 g2 g => by
    obtain ⟨μ', ν', b', a', e1, e2, e3⟩ := g
    exact ⟨μ', ν', b', a', e1, JC_le e2 g1 g2, e3⟩
  obtain ⟨s, hs, ey⟩ := I_low1 y
  have r1 : b 1 1 = a 0 2 := h.2.1.2.1
  unfold f_L_lines
  rw [ey]
  simp only [yl]
  by_cases c0 : act = 0
  · subst c0
    rw [if_pos (show nI 0 = (0 : Int32) from rfl), show ixB (1 : Int32) 22 = true from rfl, show (1 : Int32).toNatClampNeg = 1 from rfl, r1]
    simp only [cond_true]
    by_cases cu : a 0 2 = (1 : Int32)
    · have hup : ¬ a 0 2 = nI 0 := by rw [cu]; decide
      rw [if_pos cu]
      by_cases cv : v &&& (1792 : Int32) ≤ (0 : Int32)
      · rw [if_pos cv]
        obtain ⟨μ', g1, g2⟩ := jc_cut (w := w) hJ hup
        obtain ⟨b', d1, d2⟩ := lk_down (Hg := Zh) (w := w) h (by omega)
        rw [g1, Option.bind_some]
        unfold b_L_lines_57
        rw [d1, Option.bind_some, if_pos rfl]
        exact wk (by omega) (by omega) ⟨μ', ν, b', _, rfl, g2, d2⟩
      · rw [if_neg cv, jc_conX hJ hup, Option.bind_some]
        unfold b_L_lines_30
        rw [if_pos rfl, jc_conX (JC_thr hJ) hup, Option.bind_some]
        unfold b_L_lines_41
        rw [if_pos rfl]
        exact wk (by omega) (Nat.add_le_add_left (show 2 ≤ 8 by decide) T) ⟨_, _, b, a, rfl, JC_thr (JC_thr hJ), h⟩
    · have hd : a 0 2 = nI 0 := (JC_sv hJ).2.1.resolve_right cu
      rw [if_neg cu, jc_cutX hJ hd, Option.bind_some]
      exact wk (Nat.le_refl _) (by omega) (ln_con hw hN hJ h hd h4 h20)
  rw [if_neg (show ¬ nI act = (0 : Int32) from Ieq (b := 0) (by omega) (by decide) c0)]
  by_cases c7 : 7 ≤ act
  · rw [if_pos (show (7 : Int32) ≤ nI act from (nI_leI (a := 7) (b := act) (by decide) (by omega)).mpr c7)]
    by_cases c77 : act = 7
    · subst c77
      obtain ⟨q, c, H, hq, e19, hH, e20, hc, hk⟩ := h.2.2.1 s hs
      obtain ⟨-, -, -, -, -, -, -, -, r16⟩ := LR_1 h hs
      obtain ⟨p, hp, el⟩ := lk_low w b v (show 1 ≤ c + 1 by omega) (show c + 1 < 2 ^ 31 by omega)
      rw [if_pos (show nI 7 = (7 : Int32) from rfl), show (16 : Int32) + nI s = nI (16 + s) from nI_add 16 s, ixn (show 16 + s < 22 by omega) (by decide), nI_clamp (show 16 + s < 2 ^ 31 by omega), r16, e20, show nI c + (1 : Int32) = nI (c + 1) from nI_add c 1, el, Option.bind_some]
      simp only [cond_true]
      exact wk (Nat.le_refl _) (by omega) (ln_garble hN hs hJ h (by rw [e20, tnI (by omega)]; omega))
    · rw [if_neg (show ¬ nI act = (7 : Int32) from Ieq (b := 7) (by omega) (by decide) c77)]
      by_cases cv : y &&& (96 : Int32) = (0 : Int32)
      · rw [if_pos cv]
        exact wk (Nat.le_refl _) (by omega) (ln_pass (z := 26) hw hN (by decide) (by decide) hJ h h4 h20)
      · rw [if_neg cv]
        exact wk (Nat.le_refl _) (by omega) (ln_pass (z := 6) hw hN (by decide) (by decide) hJ h h4 h20)
  · rw [if_neg (show ¬ (7 : Int32) ≤ nI act from fun e => c7 ((nI_leI (a := 7) (b := act) (by decide) (by omega)).mp e))]
    exact wk (Nat.le_refl _) (by omega) (ln_come hw hN hs hJ h h4 h20 hE)
