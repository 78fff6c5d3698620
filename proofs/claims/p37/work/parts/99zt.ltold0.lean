/-! isTold, its end: totals, and what is refused -/
variable {Hh Hg : Nat → Nat}
def tdR (N T : Nat) (μ : MP) (b a : AS) (x : Option (((MP × NC) × AS) × Int32)) : Prop := ∃ ν' : NC, x = some (((μ, ν'), b), (1 : Int32)) ∧ JC N T μ ν' a
theorem td_le {N T T' : Nat} {μ : MP} {b a : AS} {x : Option (((MP × NC) × AS) × Int32)} (g : tdR N T μ b a x) (h : T ≤ T') : tdR N T' μ b a x := by
  obtain ⟨ν', e, hJ⟩ := g
  exact ⟨ν', e, JC_le hJ (Nat.le_refl _) h⟩
theorem td_1108 {w N T : Nat} {μ : MP} {ν : NC} {b a : AS} (hJ : JC N T μ ν a) (h : LR Hh b a) : tdR N (T + 9) μ b a (b_L_isTold_1108 w μ ν b (a 0 2) (a 0 2)) := by
  have r18 : b 1 18 = a 0 22 := h.2.1.2.2.1
  have r19 : b 1 19 = a 0 35 := h.2.1.2.2.2.1
  obtain ⟨O, eO, hO⟩ := LR_O h
  have J1 := JC_thr hJ
  have J2 := JC_thr J1
  have J3 := JC_thr J2
  have J4 := JC_thr J3
  have J5 := JC_thr J4
  have J6 := JC_thr J5
  have J7 := JC_thr J6
  have J8 := JC_thr J7
  have J9 := JC_thr J8
  refine ⟨_, ?_, J9⟩
  unfold b_L_isTold_1108
  rw [if_pos rfl, jq_orders (w := w) hJ, Option.bind_some, show ixB (18 : Int32) 22 = true from rfl, show (18 : Int32).toNatClampNeg = 18 from rfl, r18, cond_true, if_pos rfl, jq_execs (w := w) hJ, Option.bind_some, show ixB (19 : Int32) 22 = true from rfl, show (19 : Int32).toNatClampNeg = 19 from rfl, r19, cond_true, if_pos rfl, jq_isOnX (w := w) (x := 2) hJ (by decide), Option.bind_some]
  unfold b_L_isTold_1138
  rw [if_pos rfl, jq_heldX (w := w) (x := -1) J1 (by decide), Option.bind_some]
  unfold b_L_isTold_1149
  rw [if_pos rfl, show ixB (18 : Int32) 22 = true from rfl, show (18 : Int32).toNatClampNeg = 18 from rfl, r18, cond_true, jq_stateOfX (w := w) J2 (Or.inr (Int32.le_refl _)), Option.bind_some]
  unfold b_L_isTold_1163
  rw [if_pos rfl, jq_leftX (w := w) (x := 2) (y := 0) J3 (Or.inl (by decide)), Option.bind_some]
  unfold b_L_isTold_1175
  rw [if_pos rfl, jq_leftX (w := w) (x := 0) (y := -1) J4 (Or.inr ⟨⟨0, by decide, rfl⟩, Or.inl (by decide)⟩), Option.bind_some]
  unfold b_L_isTold_1187
  rw [if_pos rfl, jq_venuesX (w := w) (x := 2147483647) J5 (Or.inr (by rw [eO, show (2147483647 : Int32) = nI 2147483647 from rfl, nI_leI (by omega) (by decide)]; omega)), Option.bind_some]
  unfold b_L_isTold_1199
  rw [if_pos rfl, show (1 : Int32) = nI 1 from rfl, jq_quotedX (w := w) (x := 3) (d := 1) J6 (Or.inr (by decide)) (by decide), Option.bind_some]
  unfold b_L_isTold_1211
  rw [if_pos rfl, jc_fieldsX (w := w) (x := 2) (y := 1) J7 (Or.inl (by decide)), Option.bind_some]
  unfold b_L_isTold_1223
  rw [if_pos rfl, jq_expectedX (w := w) (x := -2147483648) J8 (by decide), Option.bind_some]
  unfold b_L_isTold_1236
  rw [if_pos rfl]
  rfl
/-- one execution into the sums -/
theorem tt_step {w s d r e : Nat} {x14 : Int32} {k770 : MP → NC → AS → Int32 → Int32 → Int32 → Int32 → Option (((MP × NC) × AS) × Int32)} {k785 : MP → NC → AS → Int32 → Int32 → Int32 → Int32 → Int32 → Int32 → Int32 → Option (((MP × NC) × AS) × Int32)} {μ : MP} {ν : NC} {b a : AS} (hR : RR μ ν a) (h : LR Hh b a) (hs : s < 2) (hd : d < 2) (hr : r < 1000) (he : e < tn (a 0 35)) : b_L_isTold_785 k770 k785 w μ ν b x14 (nI r) (nI d) (nI s) (tS a s (nI r) (nI d) 0 e) (tS a s (nI r) (nI d) 1 e) (nI e) = k785 μ ν b x14 (nI r) (nI d) (nI s) (tS a s (nI r) (nI d) 0 (e + 1)) (tS a s (nI r) (nI d) 1 (e + 1)) (nI (e + 1)) := by
  obtain ⟨E, eE, hE⟩ := LR_E h
  have r19 : b 1 19 = nI E := h.2.1.2.2.2.1.trans eE
  have heE : e < E := by rw [eE, tnI (by omega)] at he; exact he
  obtain ⟨he60, o, v, dy, sz, mp, hp, tp, kn, hb, tb, hX⟩ := LR_ex h he
  obtain ⟨⟨⟨i1, i2, i3, i4, i5, i6, i7, i8, i9, i10⟩, x1, x2, x3, x4, x5, x6, x7, x8, x9, x10⟩, eL⟩ := id hX
  have eb := ec_bits i1 i2 i3 i4 i5 i6 i7 i8 i9 i10
  have hC := ec_lt i1 i2 i3 i4 i5 i6 i7 i8 i9 i10
  obtain ⟨p, g1, g2, g3, g4, g5, g6, g7, g8, g9, g10, g11, g12, g13, g14, g15, g16, g17⟩ := exeAll hR he
  have epo : p = o := (nI_eq (by omega) (by omega)).mp (g4.symm.trans x1)
  subst epo
  obtain ⟨ho10, se, kn', ha, le, un, rk, ⟨⟨q1', q2', q3', q4', q5', q6'⟩, k1, k2, k3, k4, k5, k6⟩, eK⟩ := L6_at h.2.2.2.2.2.2.1 g5
  have kb := kd_bits q1' q2' q3' q4' q5' q6'
  generalize hCC : ecode p v dy sz mp hp tp kn hb tb = C at *
  have bb : ∀ k m : Nat, ∀ x : Int32, ∀ y : Int64, x = nI k → y = nL (2 ^ m - 1) → k < 64 → m ≤ 64 → (nL C >>> (Int32.toInt64 x &&& 63)) &&& y = nL (C / 2 ^ k % 2 ^ m) := fun k m x y hx hy hk hm => by rw [hx, hy, L_bits C k m hC hk hm]
  have b6 : (nL C >>> (Int32.toInt64 (6 : Int32) &&& 63)) &&& (255 : Int64) = nL dy := by
    rw [bb 6 8 6 255 rfl rfl (by decide) (by decide)]
    congr 1
    exact eb.2.2.1
  have b42 : (nL C >>> (Int32.toInt64 (42 : Int32) &&& 63)) &&& (1 : Int64) = nL kn := by
    rw [bb 42 1 42 1 rfl rfl (by decide) (by decide)]
    congr 1
    exact eb.2.2.2.2.2.2.2.1
  have b43 : (nL C >>> (Int32.toInt64 (43 : Int32) &&& 63)) &&& (1 : Int64) = nL hb := by
    rw [bb 43 1 43 1 rfl rfl (by decide) (by decide)]
    congr 1
    exact eb.2.2.2.2.2.2.2.2.1
  have b44 : (nL C >>> (Int32.toInt64 (44 : Int32) &&& 63)) &&& (1 : Int64) = nL tb := by
    rw [bb 44 1 44 1 rfl rfl (by decide) (by decide)]
    congr 1
    exact eb.2.2.2.2.2.2.2.2.2
  have b15 : Int64.toInt32 (nL C &&& (15 : Int64)) = nI p := by
    rw [show (15 : Int64) = nL (2 ^ 4 - 1) from rfl, nL_and _ _ (by omega) (by decide), nL_I]
    congr 1
    exact eb.1
  have fs : f_L_size w b (nL C) = some (nI sz) := by rw [f_size w b hC]; congr 2; exact eb.2.2.2.1
  have fh : f_L_price w b (nL C) (28 : Int32) = some (nI hp) := by rw [show (28 : Int32) = nI 28 from rfl, f_price w b hC (by decide)]; congr 2; exact eb.2.2.2.2.2.1
  have ft : f_L_price w b (nL C) (35 : Int32) = some (nI tp) := by rw [show (35 : Int32) = nI 35 from rfl, f_price w b hC (by decide)]; congr 2; exact eb.2.2.2.2.2.2.1
  have ie : ixB (nI e) 60 = true := ixn he60 (by decide)
  have ce : (nI e).toNatClampNeg = e := nI_clamp (by omega)
  have io : ixB (nI p) 10 = true := ixn ho10 (by decide)
  have co : (nI p).toNatClampNeg = p := nI_clamp (by omega)
  have en : nI e + (1 : Int32) = nI (e + 1) := nI_add e 1
  have l1 : ∀ z : Nat, z < 2 → (lcv (nL z) (0 : Int64) = (0 : Int32) ↔ z = 0) := fun z hz => by rw [lcv_0, show (0 : Int64) = nL 0 from rfl, nL_inj (by omega) (by decide)]
  have l2 : ∀ z : Nat, z < 2 → (lcv (nL z) (1 : Int64) = (0 : Int32) ↔ z = 1) := fun z hz => by rw [lcv_0, show (1 : Int64) = nL 1 from rfl, nL_inj (by omega) (by decide)]
  have el : ∀ what : Int32, tS a s (nI r) (nI d) what (e + 1) = @ite _ (tpO a s (nI r) (nI d) e) (Classical.propDecidable _) (tS a s (nI r) (nI d) what e + (if what = 0 then a 39 e else a 39 e * a 41 (100 * s + e))) (tS a s (nI r) (nI d) what e) := fun _ => rfl
  have tgt : ∀ f0 f1 : Nat, f0 < 2 → f1 < 2 → (f0 = 1 ∧ f1 = 1 ↔ tpO a s (nI r) (nI d) e) → b_L_isTold_914 k770 k785 w μ ν b x14 (nI r) (nI d) (nI s) (tS a s (nI r) (nI d) 0 e) (tS a s (nI r) (nI d) 1 e) (nI e) (nI f1) (nI f0) = k785 μ ν b x14 (nI r) (nI d) (nI s) (tS a s (nI r) (nI d) 0 (e + 1)) (tS a s (nI r) (nI d) 1 (e + 1)) (nI (e + 1)) := fun f0 f1 h0 h1 hc => by
    by_cases c : f0 = 1 ∧ f1 = 1
    · obtain ⟨rfl, rfl⟩ := id c
      have hp' := hc.mp c
      have e0 : tS a s (nI r) (nI d) 0 (e + 1) = tS a s (nI r) (nI d) 0 e + nI sz := by rw [el, if_pos hp', if_pos rfl, x4]
      have e1 : tS a s (nI r) (nI d) 1 (e + 1) = tS a s (nI r) (nI d) 1 e + nI sz * a 41 (100 * s + e) := by rw [el, if_pos hp', if_neg (by decide), x4]
      unfold b_L_isTold_914
      simp only [yl]
      rw [show nI 1 &&& nI 1 = nI 1 from by decide, if_neg (show ¬ nI 1 = (0 : Int32) by decide), ie, ce, eL, cond_true, fs, Option.bind_some]
      unfold b_L_isTold_936
      simp only [yl]
      rw [if_neg (show ¬ nI 1 = (0 : Int32) by decide), ie, ce, eL, cond_true, fs, Option.bind_some, ← e0]
      rcases (show s = 0 ∨ s = 1 by omega) with rfl | rfl
      · rw [if_neg (show ¬ nI 0 = (1 : Int32) by decide)]
        unfold b_L_isTold_972
        rw [ft, Option.bind_some]
        unfold b_L_isTold_980
        simp only [yl]
        rw [e1, en, show 100 * 0 + e = e by omega, x7]
      · rw [if_pos (show nI 1 = (1 : Int32) from rfl)]
        unfold b_L_isTold_972
        rw [fh, Option.bind_some]
        unfold b_L_isTold_980
        simp only [yl]
        rw [e1, en, show 100 * 1 + e = 100 + e by omega, x6]
    · have hp' : ¬ tpO a s (nI r) (nI d) e := fun z => c (hc.mpr z)
      have ez : nI f0 &&& nI f1 = (0 : Int32) := by
        rcases (show (f0 = 0 ∧ f1 = 0) ∨ (f0 = 0 ∧ f1 = 1) ∨ (f0 = 1 ∧ f1 = 0) by omega) with ⟨rfl, rfl⟩ | ⟨rfl, rfl⟩ | ⟨rfl, rfl⟩ <;> decide
      have e0 : tS a s (nI r) (nI d) 0 (e + 1) = tS a s (nI r) (nI d) 0 e + (0 : Int32) := by rw [el, if_neg hp', Int32.add_zero]
      have e1 : tS a s (nI r) (nI d) 1 (e + 1) = tS a s (nI r) (nI d) 1 e + (0 : Int32) := by rw [el, if_neg hp', Int32.add_zero]
      unfold b_L_isTold_914
      simp only [yl]
      rw [ez, if_pos rfl]
      unfold b_L_isTold_936
      simp only [yl]
      rw [if_pos trivial]
      unfold b_L_isTold_980
      simp only [yl]
      rw [e0, e1, en]
  have t846 : ∀ f0 : Nat, f0 < 2 → (f0 = 1 ↔ a 38 e = nI r ∧ a 23 (tn (a 36 e)) = nI d) → b_L_isTold_846 k770 k785 w μ ν b x14 (nI r) (nI d) (nI s) (tS a s (nI r) (nI d) 0 e) (tS a s (nI r) (nI d) 1 e) (nI e) (nI f0) = k785 μ ν b x14 (nI r) (nI d) (nI s) (tS a s (nI r) (nI d) 0 (e + 1)) (tS a s (nI r) (nI d) 1 (e + 1)) (nI (e + 1)) := fun f0 h0 hc => by
    have mk : ∀ f1 : Nat, f1 < 2 → (f1 = 1 ↔ a 42 (100 * s + e) ≠ nI 0 ∧ a 43 (100 * s + e) = nI 0) → b_L_isTold_914 k770 k785 w μ ν b x14 (nI r) (nI d) (nI s) (tS a s (nI r) (nI d) 0 e) (tS a s (nI r) (nI d) 1 e) (nI e) (nI f1) (nI f0) = k785 μ ν b x14 (nI r) (nI d) (nI s) (tS a s (nI r) (nI d) 0 (e + 1)) (tS a s (nI r) (nI d) 1 (e + 1)) (nI (e + 1)) := fun f1 h1 hc1 => tgt f0 f1 h0 h1 (by
      constructor
      · rintro ⟨z0, z1⟩
        exact ⟨hc1.mp z1, hc.mp z0⟩
      · rintro ⟨z1, z0⟩
        exact ⟨hc.mpr z0, hc1.mpr z1⟩)
    unfold b_L_isTold_846
    rcases (show s = 0 ∨ s = 1 by omega) with rfl | rfl
    · rw [if_neg (show ¬ nI 0 = (1 : Int32) by decide), ie, ce, eL, cond_true, b42]
      rw [show 100 * 0 + e = e by omega] at mk
      by_cases c1 : kn = 1
      · rw [if_pos ((l2 kn i8).mpr c1), b44]
        by_cases c2 : tb = 0
        · rw [if_pos ((l1 tb i10).mpr c2)]
          exact mk 1 (by decide) ⟨fun _ => ⟨by rw [x8, c1]; decide, by rw [x10, c2]⟩, fun _ => rfl⟩
        · rw [if_neg (fun z => c2 ((l1 tb i10).mp z))]
          exact mk 0 (by decide) ⟨fun z => absurd z (by decide), fun z => absurd ((nI_eq (by omega) (by decide)).mp (x10.symm.trans z.2)) c2⟩
      · rw [if_neg (fun z => c1 ((l2 kn i8).mp z))]
        exact mk 0 (by decide) ⟨fun z => absurd z (by decide), fun z => absurd (x8.trans (by rw [show kn = 0 by omega])) z.1⟩
    · rw [if_pos (show nI 1 = (1 : Int32) from rfl), ie, ce, eL, cond_true, b43]
      rw [show 100 * 1 + e = 100 + e by omega] at mk
      by_cases c2 : hb = 0
      · rw [if_pos ((l1 hb i9).mpr c2)]
        exact mk 1 (by decide) ⟨fun _ => ⟨by rw [g16]; decide, by rw [x9, c2]⟩, fun _ => rfl⟩
      · rw [if_neg (fun z => c2 ((l1 hb i9).mp z))]
        exact mk 0 (by decide) ⟨fun z => absurd z (by decide), fun z => absurd ((nI_eq (by omega) (by decide)).mp (x9.symm.trans z.2)) c2⟩
  have ep : tn (a 36 e) = p := by rw [x1, tnI (by omega)]
  rw [ep] at t846
  unfold b_L_isTold_785
  rw [show ixB (19 : Int32) 22 = true from rfl, show (19 : Int32).toNatClampNeg = 19 from rfl, r19, cond_true, if_neg (show ¬ nI E ≤ nI e from fun z => by have := (nI_leI (by omega) (by omega)).mp z; omega), ie, ce, eL, cond_true, b6, nI_L _ (by omega)]
  by_cases c1 : dy = r
  · rw [if_pos (show lcv (nL dy) (nL r) = (0 : Int32) from (lcv_0 _ _).mpr (by rw [c1])), b15, io, co, eK, kb.1, cond_true]
    have fin : ∀ x : Int32, x = nI d → b_L_isTold_838 k770 k785 w μ ν b x14 (nI r) (nI d) (nI s) (tS a s (nI r) (nI d) 0 e) (tS a s (nI r) (nI d) 1 e) (nI e) x (nI se) = k785 μ ν b x14 (nI r) (nI d) (nI s) (tS a s (nI r) (nI d) 0 (e + 1)) (tS a s (nI r) (nI d) 1 (e + 1)) (nI (e + 1)) := fun x hx => by
      subst hx
      unfold b_L_isTold_838
      by_cases c2 : se = d
      · rw [if_pos (show nI se = nI d by rw [c2])]
        exact t846 1 (by decide) ⟨fun _ => ⟨x3.trans (by rw [c1]), k1.trans (by rw [c2])⟩, fun _ => rfl⟩
      · rw [if_neg (show ¬ nI se = nI d from fun z => c2 ((nI_eq (by omega) (by omega)).mp z))]
        unfold b_L_isTold_845
        exact t846 0 (by decide) ⟨fun z => absurd z (by decide), fun z => absurd ((nI_eq (by omega) (by omega)).mp (k1.symm.trans z.2)) c2⟩
    rcases (show d = 0 ∨ d = 1 by omega) with rfl | rfl
    · rw [if_pos (show nI 0 = (0 : Int32) from rfl)]
      exact fin _ rfl
    · rw [if_neg (show ¬ nI 1 = (0 : Int32) by decide)]
      exact fin _ rfl
  · rw [if_neg (show ¬ lcv (nL dy) (nL r) = (0 : Int32) from fun z => c1 ((nL_inj (by omega) (by omega)).mp ((lcv_0 _ _).mp z)))]
    unfold b_L_isTold_845
    exact t846 0 (by decide) ⟨fun z => absurd z (by decide), fun z => absurd ((nI_eq (by omega) (by omega)).mp (x3.symm.trans z.1)) c1⟩
theorem tt_loop {w s d r K : Nat} {x14 : Int32} {k770 : MP → NC → AS → Int32 → Int32 → Int32 → Int32 → Option (((MP × NC) × AS) × Int32)} {μ : MP} {ν : NC} {b a : AS} (hR : RR μ ν a) (h : LR Hh b a) (hs : s < 2) (hd : d < 2) (hr : r < 1000) (eK : a 0 35 = nI K) (hK : K ≤ 60) : ∀ (n e m : Nat), e + n = K → n < m → l_L_isTold_785 k770 w m μ ν b x14 (nI r) (nI d) (nI s) (tS a s (nI r) (nI d) 0 e) (tS a s (nI r) (nI d) 1 e) (nI e) = (f_L_total w μ ν (nI s) (nI r) (nI d) (0 : Int32)).bind (fun v22 => b_L_isTold_1000 k770 w v22.1.1 v22.1.2 b x14 (nI r) (nI d) (nI s) (tS a s (nI r) (nI d) 0 K) (tS a s (nI r) (nI d) 1 K) v22.2) := by
  intro n
  induction n with
  | zero =>
    intro e m h1 h2
    obtain ⟨m, rfl⟩ : ∃ m', m = m' + 1 := ⟨m - 1, by omega⟩
    have : e = K := by omega
    subst this
    show b_L_isTold_785 k770 _ w μ ν b _ _ _ _ _ _ _ = _
    unfold b_L_isTold_785
    rw [show ixB (19 : Int32) 22 = true from rfl, show (19 : Int32).toNatClampNeg = 19 from rfl, show b 1 19 = nI e from h.2.1.2.2.2.1.trans eK, cond_true, if_pos (Int32.le_refl _)]
  | succ n ih =>
    intro e m h1 h2
    obtain ⟨m, rfl⟩ : ∃ m', m = m' + 1 := ⟨m - 1, by omega⟩
    rw [← ih (e + 1) m (by omega) (by omega)]
    exact tt_step hR h hs hd hr (by rw [eK, tnI (by omega)]; omega)
theorem td_770 {w N r d : Nat} {μ : MP} {b a : AS} (hw : 1000 < w) (h : LR Hh b a) (hd : d < 2) (hr : nI r ≤ a 0 44) (hr' : r < 1000) : ∀ (n s m T : Nat) (ν : NC), s + n = 2 → n < m → JC N T μ ν a → tdR N (T + 3 * n + 9) μ b a (l_L_isTold_770 w m μ ν b (ypI (agA a (tn (a 0 22)))) (nI r) (nI d) (nI s)) := by
  obtain ⟨K, eK, hK⟩ := LR_E h
  have eKt : tn (a 0 35) = K := by rw [eK, tnI (by omega)]
  obtain ⟨D, eD, hD⟩ := h.1.2
  have c2 : ¬ a 0 44 < nI r := Int32.not_lt.mpr hr
  have c1 : ¬ nI r < 0 := fun z => by have := (nI_ltI (a := r) (b := 0) (by omega) (by decide)).mp z; omega
  intro n
  induction n with
  | zero =>
    intro s m T ν h1 h2 hJ
    obtain ⟨m, rfl⟩ : ∃ m', m = m' + 1 := ⟨m - 1, by omega⟩
    have : s = 2 := by omega
    subst this
    have hR := JC_RR hJ
    obtain ⟨y1, y2, y3, y4⟩ := hR.2.2.1
    show tdR _ _ _ _ _ (b_L_isTold_770 _ w μ ν b _ _ _ _)
    unfold b_L_isTold_770
    rw [if_pos (show (2 : Int32) ≤ nI 2 by decide), jq_agree hw hJ, Option.bind_some, if_pos rfl, jq_isUp (w := w) hJ, Option.bind_some, show ixB (1 : Int32) 22 = true from rfl, show (1 : Int32).toNatClampNeg = 1 from rfl, cond_true, show b 1 1 = a 0 2 from h.2.1.2.1]
    have g := td_1108 (w := w) hJ h
    rcases y4 with y | y
    · rw [if_neg (show ¬ a 0 2 = (1 : Int32) by rw [y]; decide)]
      rw [y] at g ⊢
      exact td_le g (by omega)
    · rw [if_pos (show a 0 2 = (1 : Int32) by rw [y]; rfl)]
      rw [y] at g ⊢
      exact td_le g (by omega)
  | succ n ih =>
    intro s m T ν h1 h2 hJ
    obtain ⟨m, rfl⟩ : ∃ m', m = m' + 1 := ⟨m - 1, by omega⟩
    have hs : s < 2 := by omega
    have hR := JC_RR hJ
    have J1 := JC_thr hJ
    have J2 := JC_thr J1
    have J3 := JC_thr J2
    have g := ih (s + 1) m (T + 3) _ (by omega) (by omega) J3
    have key : l_L_isTold_770 w (m + 1) μ ν b (ypI (agA a (tn (a 0 22)))) (nI r) (nI d) (nI s) = l_L_isTold_770 w m μ (chg (chg (chg ν 1 6) 1 6) 1 6) b (ypI (agA a (tn (a 0 22)))) (nI r) (nI d) (nI (s + 1)) := by
      show b_L_isTold_770 (l_L_isTold_770 w m) w μ ν b _ _ _ _ = _
      unfold b_L_isTold_770
      rw [if_neg (show ¬ (2 : Int32) ≤ nI s from fun z => by have := (nI_leI (a := 2) (b := s) (by decide) (by omega)).mp z; omega)]
      rw [show l_L_isTold_785 (l_L_isTold_770 w m) w w μ ν b (ypI (agA a (tn (a 0 22)))) (nI r) (nI d) (nI s) (0 : Int32) (0 : Int32) (0 : Int32) = _ from tt_loop (k770 := l_L_isTold_770 w m) (x14 := ypI (agA a (tn (a 0 22)))) hR h hs hd hr' eK hK K 0 w (by omega) (by omega)]
      rw [jq_total hw hJ hs c1 c2 (Or.inl rfl), Option.bind_some]
      unfold b_L_isTold_1000
      rw [eKt, if_pos rfl]
      dsimp only
      rw [jq_total hw hJ hs c1 c2 (Or.inr rfl), Option.bind_some]
      unfold b_L_isTold_1016
      rw [eKt, if_pos rfl, show ixB (20 : Int32) 22 = true from rfl, show (20 : Int32).toNatClampNeg = 20 from rfl, cond_true, show b 1 20 = a 0 44 from h.2.1.2.2.2.2.1]
      dsimp only
      rw [jq_totalX (w := w) (what := 2) (dir := nI d) (day := a 0 44 + 1) hJ hs (Or.inr (by rw [eD, show nI D + (1 : Int32) = nI (D + 1) from nI_add D 1, nI_ltI (by omega) (by omega)]; omega)), Option.bind_some]
      unfold b_L_isTold_1036
      rw [if_pos rfl]
      dsimp only
      rw [jq_totalY (w := w) (what := 2) (dir := nI d) (day := nI r) J1 hs c1 c2 (Or.inr (by decide)), Option.bind_some]
      unfold b_L_isTold_1053
      rw [if_pos rfl]
      dsimp only
      rw [jq_totalX (w := w) (what := 0) (dir := nI d) (day := -1) J2 hs (Or.inl (by decide)), Option.bind_some]
      unfold b_L_isTold_1069
      simp only [yl]
      rw [if_pos trivial, show nI s + (1 : Int32) = nI (s + 1) from nI_add s 1]
    rw [key]
    exact td_le g (by omega)
