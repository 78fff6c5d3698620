/-! isTold: quotes, orders -/
variable {Hh Hg : Nat → Nat}
theorem td_693 {w N T : Nat} {x1 : Int32} {μ : MP} {ν : NC} {b a : AS} (hw : 1000 < w) (hJ : JC N T μ ν a) (h : LR Hh b a) : ∀ (n q m : Nat), q + n = 6 → n < m → tdR N (T + 15) μ b a (l_L_isTold_693 w m μ ν b x1 (ypI (agA a (tn (a 0 22)))) (nI q)) := by
  obtain ⟨D, eD, hD⟩ := h.1.2
  have r20 : b 1 20 = nI D := h.2.1.2.2.2.2.1.trans eD
  intro n
  induction n with
  | zero =>
    intro q m h1 h2
    obtain ⟨m, rfl⟩ : ∃ m', m = m' + 1 := ⟨m - 1, by omega⟩
    have : q = 6 := by omega
    subst this
    obtain ⟨r, hr, el⟩ := lk_low w b x1 (show 1 ≤ D + 1 by omega) (show D + 1 < 2 ^ 31 by omega)
    show tdR _ _ _ _ _ (b_L_isTold_693 _ w μ ν b _ _ _)
    unfold b_L_isTold_693
    rw [if_pos (show (6 : Int32) ≤ nI 6 by decide), show ixB (20 : Int32) 22 = true from rfl, show (20 : Int32).toNatClampNeg = 20 from rfl, r20, cond_true, show nI D + (1 : Int32) = nI (D + 1) from nI_add D 1, el, Option.bind_some]
    have g : ∀ d, d < 2 → tdR N (T + 15) μ b a (b_L_isTold_765 w μ ν b (ypI (agA a (tn (a 0 22)))) (nI r) (nI d)) := fun d hd => td_770 hw h hd (by rw [eD, nI_leI (by omega) (by omega)]; omega) (by omega) 2 0 w T ν (by omega) (by omega) hJ
    by_cases c : x1 &&& (64 : Int32) ≤ (0 : Int32)
    · rw [if_pos c]
      exact g 0 (by decide)
    · rw [if_neg c]
      exact g 1 (by decide)
  | succ n ih =>
    intro q m h1 h2
    obtain ⟨m, rfl⟩ : ∃ m', m = m' + 1 := ⟨m - 1, by omega⟩
    have hq : q < 6 := by omega
    obtain ⟨pr, sz, h3, h4, h5, h6, h7⟩ := h.2.2.2.2.2.2.2.2 q hq
    have hb := (tq_bits h3 h4).1
    have g := ih (q + 1) m (by omega) (by omega)
    have key : l_L_isTold_693 w (m + 1) μ ν b x1 (ypI (agA a (tn (a 0 22)))) (nI q) = l_L_isTold_693 w m μ ν b x1 (ypI (agA a (tn (a 0 22)))) (nI (q + 1)) := by
      show b_L_isTold_693 (l_L_isTold_693 w m) w μ ν b _ _ _ = _
      have k718 : ∀ d : Nat, d < 2 → q = 2 * (q / 2) + d → ∀ x : Int32, x = nI d → b_L_isTold_718 (l_L_isTold_693 w m) w μ ν b x1 (ypI (agA a (tn (a 0 22)))) (nI q) x (nI q / (2 : Int32)) = l_L_isTold_693 w m μ ν b x1 (ypI (agA a (tn (a 0 22)))) (nI (q + 1)) := fun d hd e x hx => by
        subst hx
        unfold b_L_isTold_718
        rw [show nI q / (2 : Int32) = nI (q / 2) from pk_div (by omega) (by decide) (by decide), jq_quoted (w := w) hJ (show q / 2 < 3 by omega) hd, Option.bind_some, ← e, h6]
        unfold b_L_isTold_721
        rw [ixn hq (by decide), nI_clamp (show q < 2 ^ 31 by omega), h5, hb, cond_true, if_pos rfl]
        simp only [yl]
        rw [show nI q + (1 : Int32) = nI (q + 1) from nI_add q 1]
      unfold b_L_isTold_693
      rw [if_neg (show ¬ (6 : Int32) ≤ nI q from fun z => by have := (nI_leI (a := 6) (b := q) (by decide) (by omega)).mp z; omega)]
      have em : nI q - nI q / (2 : Int32) * (2 : Int32) = nI (q - q / 2 * 2) := by
        rw [show nI q / (2 : Int32) = nI (q / 2) from pk_div (by omega) (by decide) (by decide), show (2 : Int32) = nI 2 from rfl, I_mul]
        exact pk_sub (by omega)
      rw [em]
      by_cases c : q - q / 2 * 2 = 1
      · rw [c, if_pos (show nI 1 = (1 : Int32) from rfl)]
        exact k718 1 (by decide) (by omega) _ rfl
      · rw [show q - q / 2 * 2 = 0 by omega, if_neg (show ¬ nI 0 = (1 : Int32) by decide)]
        exact k718 0 (by decide) (by omega) _ rfl
    rw [key]
    exact g
/-- the venues that an order got at -/
theorem td_287 {w o K : Nat} {x1 x14 x16 x17 x18 : Int32} {k216 : MP → NC → AS → Int32 → Int32 → Int32 → Option (((MP × NC) × AS) × Int32)} {μ : MP} {ν : NC} {b a : AS} (h : LR Hh b a) (ho : o < 10) (eK : a 0 35 = nI K) (hK : K ≤ 60) : ∀ (n e m : Nat), e + n = K → n < m → l_L_isTold_287 k216 w m μ ν b x1 x14 (nI o) x16 x17 x18 (yvS a o e) (nI e) = (f_L_stateOf w μ ν (nI o)).bind (fun v49 => b_L_isTold_343 k216 w v49.1.1 v49.1.2 b x1 x14 (nI o) x16 x17 x18 (yvS a o K) v49.2) := by
  have r19 : b 1 19 = nI K := h.2.1.2.2.2.1.trans eK
  intro n
  induction n with
  | zero =>
    intro e m h1 h2
    obtain ⟨m, rfl⟩ : ∃ m', m = m' + 1 := ⟨m - 1, by omega⟩
    have : e = K := by omega
    subst this
    show b_L_isTold_287 k216 _ w μ ν b _ _ _ _ _ _ _ _ = _
    unfold b_L_isTold_287
    rw [show ixB (19 : Int32) 22 = true from rfl, show (19 : Int32).toNatClampNeg = 19 from rfl, r19, cond_true, if_pos (Int32.le_refl _)]
  | succ n ih =>
    intro e m h1 h2
    obtain ⟨m, rfl⟩ : ∃ m', m = m' + 1 := ⟨m - 1, by omega⟩
    have he : e < tn (a 0 35) := by rw [eK, tnI (by omega)]; omega
    obtain ⟨he60, p, v, dy, sz, mp, hp, tp, kn, hb, tb, hX⟩ := LR_ex h he
    obtain ⟨⟨⟨i1, i2, i3, i4, i5, i6, i7, i8, i9, i10⟩, y1, y2, -⟩, eL⟩ := id hX
    have eb := ec_bits i1 i2 i3 i4 i5 i6 i7 i8 i9 i10
    have hC := ec_lt i1 i2 i3 i4 i5 i6 i7 i8 i9 i10
    rw [← ih (e + 1) m (by omega) (by omega)]
    show b_L_isTold_287 k216 (l_L_isTold_287 k216 w m) w μ ν b _ _ _ _ _ _ _ _ = _
    unfold b_L_isTold_287
    have b15 : nL (ecode p v dy sz mp hp tp kn hb tb) &&& (15 : Int64) = nL p := by
      rw [show (15 : Int64) = nL (2 ^ 4 - 1) from rfl, nL_and _ _ (by omega) (by decide)]
      congr 1
      exact eb.1
    have b4 : Int64.toInt32 ((nL (ecode p v dy sz mp hp tp kn hb tb) >>> (Int32.toInt64 (4 : Int32) &&& 63)) &&& (3 : Int64)) = nI v := by
      rw [show (4 : Int32) = nI 4 from rfl, show (3 : Int64) = nL (2 ^ 2 - 1) from rfl, L_bits _ 4 2 hC (by decide) (by decide), nL_I]
      congr 1
      exact eb.2.1
    have en : nI e + (1 : Int32) = nI (e + 1) := nI_add e 1
    rw [show ixB (19 : Int32) 22 = true from rfl, show (19 : Int32).toNatClampNeg = 19 from rfl, r19, cond_true, if_neg (show ¬ nI K ≤ nI e from fun z => by have := (nI_leI (by omega) (by omega)).mp z; omega), ixn he60 (by decide), nI_clamp (show e < 2 ^ 31 by omega), eL, cond_true, b15, b4, nI_L _ (by omega)]
    by_cases c : p = o
    · subst c
      rw [if_pos (show lcv (nL p) (nL p) = (0 : Int32) from (lcv_0 _ _).mpr rfl)]
      simp only [yl]
      unfold b_L_isTold_331
      simp only [yl]
      rw [yvS_or a p e v i2 y1 y2, en]
    · rw [if_neg (show ¬ lcv (nL p) (nL o) = (0 : Int32) from fun z => c ((nL_inj (by omega) (by omega)).mp ((lcv_0 _ _).mp z)))]
      unfold b_L_isTold_331
      simp only [yl]
      rw [en, ← yvS_no a o e (fun z => c ((nI_eq (by omega) (by omega)).mp (y1.symm.trans z))), Int32.or_zero]
theorem yvS_z (a : AS) (o : Nat) : yvS a o 0 = (0 : Int32) := by
  show nI 0 + nI 2 * nI 0 + nI 4 * nI 0 = (0 : Int32)
  decide
theorem yp_and {p q : Prop} {y : Int32} (hy : (q → y = 1) ∧ (¬ q → y = 0)) : ypI p &&& y = ypI (p ∧ q) := by
  by_cases c1 : p
  · rw [ypI_t c1]
    by_cases c2 : q
    · rw [hy.1 c2, ypI_t ⟨c1, c2⟩]
      decide
    · rw [hy.2 c2, ypI_f (fun z => c2 z.2)]
      decide
  · rw [ypI_f c1, ypI_f (fun z => c1 z.1)]
    by_cases c2 : q
    · rw [hy.1 c2]
      decide
    · rw [hy.2 c2]
      decide
/-- one order -/
theorem td_step {w N T o : Nat} {x1 : Int32} {k216 : MP → NC → AS → Int32 → Int32 → Int32 → Option (((MP × NC) × AS) × Int32)} {μ : MP} {ν : NC} {b a : AS} (hw : 1000 < w) (hN : N ≤ 512) (hJ : JC N T μ ν a) (h : LR Hh b a) (ho : o < tn (a 0 22)) : b_L_isTold_216 k216 w μ ν b x1 (ypI (agA a o)) (nI o) = k216 μ ν b x1 (ypI (agA a (o + 1))) (nI (o + 1)) := by
  obtain ⟨O, eO, hO⟩ := LR_O h
  obtain ⟨K, eK, hK⟩ := LR_E h
  have eKt : tn (a 0 35) = K := by rw [eK, tnI (by omega)]
  have r18 : b 1 18 = nI O := h.2.1.2.2.1.trans eO
  obtain ⟨ho10, se, kn, ha, le, un, rk, ⟨⟨q1', q2', q3', q4', q5', q6'⟩, k1, k2, k3, k4, k5, k6⟩, eC⟩ := L6_at h.2.2.2.2.2.2.1 ho
  have kb := kd_bits q1' q2' q3' q4' q5' q6'
  have hoO : o < O := by rw [eO, tnI (by omega)] at ho; exact ho
  have io : ixB (nI o) 10 = true := ixn ho10 (by decide)
  have co : (nI o).toNatClampNeg = o := nI_clamp (by omega)
  have i2 : ixB (nI o) 20 = true := ixn (by omega) (by decide)
  have e10 : (10 : Int32) + nI o = nI (10 + o) := nI_add 10 o
  have i20 : ixB (nI (10 + o)) 20 = true := ixn (by omega) (by decide)
  have c10 : (nI (10 + o)).toNatClampNeg = 10 + o := nI_clamp (by omega)
  obtain ⟨-, -, t3, t4, -⟩ := h.2.2.2.2.2.1 0 o (by decide) ho10
  obtain ⟨-, -, u3, u4, -⟩ := h.2.2.2.2.2.1 1 o (by decide) ho10
  simp only [Nat.mul_zero, Nat.zero_add] at t3 t4
  simp only [Nat.mul_one] at u3 u4
  have rs0 : f_L_rest w b (nI o) = some (lft a o) := by
    have := lk_rest (w := w) (z := 0) h (by decide) ho10
    simp only [Nat.mul_zero, Nat.zero_add] at this
    exact this
  have rs1 : f_L_rest w b (nI (10 + o)) = some (lft a (40 + o)) := by
    have := lk_rest (w := w) (z := 1) h (by decide) ho10
    simp only [Nat.mul_one] at this
    exact this
  have n0 : ¬ noB a 0 o := fun z => absurd z.1 (by decide)
  have l0 : lfO a 0 o = if kn = 1 then lft a o else (0 : Int32) := by
    unfold lfO
    by_cases c : kn = 1
    · rw [if_pos c, if_neg (fun z => by rw [k2, c] at z; exact absurd z.2 (by decide)), show 40 * 0 + o = o by omega]
    · rw [if_neg c, if_pos ⟨rfl, by rw [k2, show kn = 0 by omega]⟩]
      rfl
  have n1 : noB a 1 o ↔ ha = 0 := by
    constructor
    · intro z
      exact (nI_eq (by omega) (by decide)).mp (k3.symm.trans z.2)
    · intro z
      exact ⟨rfl, by rw [k3, z]⟩
  have l1 : lfO a 1 o = lft a (40 + o) := by
    unfold lfO
    rw [if_neg (fun z => absurd z.1 (by decide)), show 40 * 1 + o = 40 + o by omega]
  have hp0 : nI ha = (0 : Int32) ↔ ha = 0 := nI_eq (by omega) (by decide)
  have en : nI o + (1 : Int32) = nI (o + 1) := nI_add o 1
  have z0 : 40 * 0 + o = o := by omega
  have z1 : 40 * 1 + o = 40 + o := by omega
  -- the end of an order
  have q1a := jq_left (w := w) hJ (show 1 < 2 by decide) ho
  have q2a := jq_done (w := w) hJ (show 1 < 2 by decide) ho
  have q3a := jq_doneByLog hw hN hJ (show 1 < 2 by decide) ho
  have q4a := jq_out (w := w) hJ (show 1 < 2 by decide) ho
  have q1b := jq_left (w := w) hJ (show 0 < 2 by decide) ho
  have q2b := jq_done (w := w) hJ (show 0 < 2 by decide) ho
  have q3b := jq_doneByLog hw hN hJ (show 0 < 2 by decide) ho
  have q4b := jq_out (w := w) hJ (show 0 < 2 by decide) ho
  rw [if_neg n0] at q1b q2b q3b q4b
  simp only [Nat.mul_zero, Nat.zero_add] at q2b q3b q4b
  simp only [Nat.mul_one] at q2a q3a q4a
  rw [l1] at q1a
  have k681 : ∀ y : Int32, ((a 24 (40 + o) = nI 0 ∨ agO a o → y = 1) ∧ (¬ (a 24 (40 + o) = nI 0 ∨ agO a o) → y = 0)) → b_L_isTold_681 k216 w μ ν b x1 (nI o) y (ypI (agA a o)) = k216 μ ν b x1 (ypI (agA a (o + 1))) (nI (o + 1)) := fun y hy => by
    unfold b_L_isTold_681
    simp only [yl]
    rw [yp_and hy, en]
    rfl
  have k24 : a 24 (40 + o) = nI 0 ↔ ha = 0 := ⟨fun z => (nI_eq (by omega) (by decide)).mp (k3.symm.trans z), fun z => by rw [k3, z]⟩
  have k613 : ∀ y : Int32, y = (if noB a 1 o then -1 else a 28 (40 + o)) → b_L_isTold_613 k216 w μ ν b x1 (ypI (agA a o)) (nI o) (nI ha) (lfO a 0 o) y (if noB a 1 o then -1 else a 28 (40 + o)) = k216 μ ν b x1 (ypI (agA a (o + 1))) (nI (o + 1)) := fun y hy => by
    subst hy
    unfold b_L_isTold_613
    rw [if_pos rfl]
    by_cases c : ha = 0
    · rw [if_pos (hp0.mpr c)]
      unfold b_L_isTold_676
      exact k681 _ ⟨fun _ => rfl, fun z => absurd (Or.inl (k24.mpr c)) z⟩
    · rw [if_neg (fun z => c (hp0.mp z)), e10, rs1, Option.bind_some, i2, i20, co, c10, t3, t4, u3, u4, cond_true, cond_true]
      have no : agO a o → b_L_isTold_676 k216 w μ ν b x1 (nI o) (ypI (agA a o)) = k216 μ ν b x1 (ypI (agA a (o + 1))) (nI (o + 1)) := fun g => by
        unfold b_L_isTold_676
        exact k681 _ ⟨fun _ => rfl, fun z => absurd (Or.inr g) z⟩
      have nn : ¬ agO a o → b_L_isTold_680 k216 w μ ν b x1 (nI o) (ypI (agA a o)) = k216 μ ν b x1 (ypI (agA a (o + 1))) (nI (o + 1)) := fun g => by
        unfold b_L_isTold_680
        exact k681 _ ⟨fun z => absurd z (fun z => z.elim (fun z => c (k24.mp z)) g), fun _ => rfl⟩
      by_cases d1 : lfO a 0 o = lft a (40 + o)
      · rw [if_pos d1]
        by_cases d2 : a 27 o = a 27 (40 + o)
        · rw [if_pos d2]
          by_cases d3 : a 28 o = a 28 (40 + o)
          · rw [if_pos d3]
            exact no ⟨d1, d2, d3⟩
          · rw [if_neg d3]
            exact nn (fun z => d3 z.2.2)
        · rw [if_neg d2]
          exact nn (fun z => d2 z.2.1)
      · rw [if_neg d1]
        exact nn (fun z => d1 z.1)
  have k532 : ∀ y : Int32, y = (if noB a 1 o then -1 else lft a (40 + o)) → b_L_isTold_532 k216 w μ ν b x1 (ypI (agA a o)) (nI o) (nI ha) (lfO a 0 o) y (if noB a 1 o then -1 else lft a (40 + o)) = k216 μ ν b x1 (ypI (agA a (o + 1))) (nI (o + 1)) := fun y hy => by
    subst hy
    unfold b_L_isTold_532
    rw [if_pos rfl, show (1 : Int32) = nI 1 from rfl, q2a, Option.bind_some]
    unfold b_L_isTold_542
    dsimp only
    rw [e10, i20, c10, u3, cond_true]
    have k559 : ∀ y : Int32, y = (if noB a 1 o then -1 else a 27 (40 + o)) → b_L_isTold_559 k216 w μ ν b x1 (ypI (agA a o)) (nI o) (nI ha) (lfO a 0 o) y (if noB a 1 o then -1 else a 27 (40 + o)) = k216 μ ν b x1 (ypI (agA a (o + 1))) (nI (o + 1)) := fun y hy => by
      subst hy
      unfold b_L_isTold_559
      rw [if_pos rfl, show (1 : Int32) = nI 1 from rfl, q3a, Option.bind_some]
      unfold b_L_isTold_569
      dsimp only
      rw [e10, i20, c10, u3, cond_true]
      have k586 : ∀ y : Int32, y = (if noB a 1 o then -1 else a 27 (40 + o)) → b_L_isTold_586 k216 w μ ν b x1 (ypI (agA a o)) (nI o) (nI ha) (lfO a 0 o) y (if noB a 1 o then -1 else a 27 (40 + o)) = k216 μ ν b x1 (ypI (agA a (o + 1))) (nI (o + 1)) := fun y hy => by
        subst hy
        unfold b_L_isTold_586
        rw [if_pos rfl, show (1 : Int32) = nI 1 from rfl, q4a, Option.bind_some]
        unfold b_L_isTold_596
        dsimp only
        rw [e10, i20, c10, u4, cond_true]
        by_cases c : ha = 0
        · rw [if_pos (hp0.mpr c)]
          exact k613 _ (by rw [if_pos (n1.mpr c)])
        · rw [if_neg (fun z => c (hp0.mp z))]
          exact k613 _ (by rw [if_neg (fun z => c (n1.mp z))])
      by_cases c : ha = 0
      · rw [if_pos (hp0.mpr c)]
        exact k586 _ (by rw [if_pos (n1.mpr c)])
      · rw [if_neg (fun z => c (hp0.mp z))]
        exact k586 _ (by rw [if_neg (fun z => c (n1.mp z))])
    by_cases c : ha = 0
    · rw [if_pos (hp0.mpr c)]
      exact k559 _ (by rw [if_pos (n1.mpr c)])
    · rw [if_neg (fun z => c (hp0.mp z))]
      exact k559 _ (by rw [if_neg (fun z => c (n1.mp z))])
  have k450 : b_L_isTold_450 k216 w μ ν b x1 (ypI (agA a o)) (nI o) (nI ha) (lfO a 0 o) (lfO a 0 o) = k216 μ ν b x1 (ypI (agA a (o + 1))) (nI (o + 1)) := by
    unfold b_L_isTold_450
    rw [if_pos rfl, show (0 : Int32) = nI 0 from rfl, q2b, Option.bind_some]
    unfold b_L_isTold_462
    dsimp only
    rw [i2, co, t3, cond_true, if_pos rfl, show (0 : Int32) = nI 0 from rfl, q3b, Option.bind_some]
    unfold b_L_isTold_477
    dsimp only
    rw [i2, co, t3, cond_true, if_pos rfl, show (0 : Int32) = nI 0 from rfl, q4b, Option.bind_some]
    unfold b_L_isTold_492
    dsimp only
    rw [i2, co, t4, cond_true, if_pos rfl, show (1 : Int32) = nI 1 from rfl, q1a, Option.bind_some]
    unfold b_L_isTold_509
    dsimp only
    rw [e10, rs1, Option.bind_some]
    by_cases c : ha = 0
    · rw [if_pos (hp0.mpr c)]
      exact k532 _ (by rw [if_pos (n1.mpr c)])
    · rw [if_neg (fun z => c (hp0.mp z))]
      exact k532 _ (by rw [if_neg (fun z => c (n1.mp z))])
  have k392 : ∀ y : Int32, b_L_isTold_392 k216 w μ ν b x1 (ypI (agA a o)) (nI o) (nI ha) (lfO a 0 o) (yvS a o K) y y = k216 μ ν b x1 (ypI (agA a (o + 1))) (nI (o + 1)) := fun y => by
    unfold b_L_isTold_392
    rw [if_pos rfl, jq_underWay (w := w) hJ ho, Option.bind_some]
    unfold b_L_isTold_401
    dsimp only
    rw [io, co, eC, kb.2.2.2.2.1, k5, cond_true, if_pos rfl, jq_venues hw hJ ho, Option.bind_some]
    unfold b_L_isTold_420
    dsimp only
    rw [yvS_end, eKt, if_pos rfl, show (0 : Int32) = nI 0 from rfl, q1b, Option.bind_some]
    exact k450
  have k362 : b_L_isTold_362 k216 w μ ν b x1 (ypI (agA a o)) (nI o) (nI ha) (nI (1 - kn)) (lfO a 0 o) (yvS a o K) (stO a o) (stO a o) = k216 μ ν b x1 (ypI (agA a (o + 1))) (nI (o + 1)) := by
    unfold b_L_isTold_362
    rw [if_pos rfl, jq_leftOut (w := w) hJ ho, Option.bind_some]
    unfold b_L_isTold_371
    dsimp only
    have hle : a 29 o = nI 0 ↔ le = 0 := ⟨fun z => (nI_eq (by omega) (by decide)).mp (k4.symm.trans z), fun z => by rw [k4, z]⟩
    have hkn : a 24 o = nI 0 ↔ kn = 0 := ⟨fun z => (nI_eq (by omega) (by decide)).mp (k2.symm.trans z), fun z => by rw [k2, z]⟩
    by_cases c : kn = 1
    · rw [if_pos (show nI (1 - kn) = (0 : Int32) by rw [c]; rfl), if_neg (show ¬ a 24 o = nI 0 from fun z => by have := hkn.mp z; omega)]
      unfold b_L_isTold_391
      rw [show (if a 29 o = nI 0 then nI 0 else nI 0) = (0 : Int32) from by split <;> rfl]
      exact k392 0
    · rw [if_neg (show ¬ nI (1 - kn) = (0 : Int32) from fun z => by have := (nI_eq (a := 1 - kn) (b := 0) (by omega) (by decide)).mp z; omega), io, co, eC, kb.2.2.2.1, cond_true, if_pos (show a 24 o = nI 0 from hkn.mpr (by omega))]
      by_cases c1 : le = 0
      · rw [if_pos (show nI (8 * le) ≤ (0 : Int32) by rw [c1]; decide), if_pos (hle.mpr c1)]
        unfold b_L_isTold_391
        exact k392 0
      · rw [if_neg (show ¬ nI (8 * le) ≤ (0 : Int32) by rw [show le = 1 by omega]; decide), if_neg (fun z => c1 (hle.mp z))]
        exact k392 1
  have k279 : b_L_isTold_279 k216 w μ ν b x1 (ypI (agA a o)) (nI o) (nI ha) (nI (1 - kn)) (lfO a 0 o) = k216 μ ν b x1 (ypI (agA a (o + 1))) (nI (o + 1)) := by
    unfold b_L_isTold_279
    rw [show l_L_isTold_287 k216 w w μ ν b x1 (ypI (agA a o)) (nI o) (nI ha) (nI (1 - kn)) (lfO a 0 o) (0 : Int32) (0 : Int32) = l_L_isTold_287 k216 w w μ ν b x1 (ypI (agA a o)) (nI o) (nI ha) (nI (1 - kn)) (lfO a 0 o) (yvS a o 0) (nI 0) from by rw [yvS_z]; rfl, td_287 h ho10 eK hK K 0 w (by omega) (by omega), jq_stateOf (w := w) hJ ho, Option.bind_some]
    unfold b_L_isTold_343
    dsimp only
    have hst : stO a o = if kn = 0 then nI 0 else if lft a o ≤ nI 0 then nI 2 else nI 1 := by
      unfold stO
      by_cases c : kn = 0
      · rw [if_pos c, if_pos (show a 24 o = nI 0 by rw [k2, c])]
      · rw [if_neg c, if_neg (show ¬ a 24 o = nI 0 from fun z => c ((nI_eq (by omega) (by decide)).mp (k2.symm.trans z)))]
    by_cases c : kn = 0
    · rw [if_neg (show ¬ nI (1 - kn) = (0 : Int32) by rw [c]; decide)]
      have e : stO a o = (0 : Int32) := by rw [hst, if_pos c]; rfl
      rw [e] at k362 ⊢
      exact k362
    · rw [if_pos (show nI (1 - kn) = (0 : Int32) by rw [show kn = 1 by omega]; rfl)]
      rw [if_neg c] at hst
      have el : lfO a 0 o = lft a o := by rw [l0, if_pos (show kn = 1 by omega)]
      by_cases c1 : lft a o ≤ nI 0
      · rw [if_pos (show lfO a 0 o ≤ (0 : Int32) by rw [el]; exact c1)]
        have e : stO a o = (2 : Int32) := by rw [hst, if_pos c1]; rfl
        rw [e] at k362 ⊢
        exact k362
      · rw [if_neg (show ¬ lfO a 0 o ≤ (0 : Int32) by rw [el]; exact c1)]
        have e : stO a o = (1 : Int32) := by rw [hst, if_neg c1]; rfl
        rw [e] at k362 ⊢
        exact k362
  have k240 : b_L_isTold_240 k216 w μ ν b x1 (ypI (agA a o)) (nI o) (nI ha) = k216 μ ν b x1 (ypI (agA a (o + 1))) (nI (o + 1)) := by
    unfold b_L_isTold_240
    rw [io, co, eC, kb.2.1, cond_true]
    by_cases c : kn = 0
    · rw [if_pos (show nI (2 * kn) = (0 : Int32) by rw [c]; rfl)]
      unfold b_L_isTold_257
      rw [if_neg (by decide)]
      rw [c, l0, if_neg (show ¬ kn = 1 by omega)] at k279
      exact k279
    · rw [if_neg (show ¬ nI (2 * kn) = (0 : Int32) by rw [show kn = 1 by omega]; decide)]
      unfold b_L_isTold_257
      rw [if_pos rfl, rs0, Option.bind_some]
      rw [show kn = 1 by omega, l0, if_pos (show kn = 1 by omega)] at k279
      exact k279
  unfold b_L_isTold_216
  rw [show ixB (18 : Int32) 22 = true from rfl, show (18 : Int32).toNatClampNeg = 18 from rfl, r18, cond_true, if_neg (show ¬ nI O ≤ nI o from fun z => by have := (nI_leI (by omega) (by omega)).mp z; omega), io, co, eC, kb.2.2.1, cond_true]
  by_cases c : ha = 0
  · rw [if_pos (show nI (4 * ha) ≤ (0 : Int32) by rw [c]; decide)]
    rw [c] at k240
    exact k240
  · rw [if_neg (show ¬ nI (4 * ha) ≤ (0 : Int32) by rw [show ha = 1 by omega]; decide)]
    rw [show ha = 1 by omega] at k240
    exact k240
theorem td_216 {w N T O : Nat} {x1 : Int32} {μ : MP} {ν : NC} {b a : AS} (hw : 1000 < w) (hN : N ≤ 512) (hJ : JC N T μ ν a) (h : LR Hh b a) (eO : a 0 22 = nI O) (hO : O ≤ 10) : ∀ (n o m : Nat), o + n = O → n < m → tdR N (T + 15) μ b a (l_L_isTold_216 w m μ ν b x1 (ypI (agA a o)) (nI o)) := by
  have r18 : b 1 18 = nI O := h.2.1.2.2.1.trans eO
  intro n
  induction n with
  | zero =>
    intro o m h1 h2
    obtain ⟨m, rfl⟩ : ∃ m', m = m' + 1 := ⟨m - 1, by omega⟩
    have : o = O := by omega
    subst this
    show tdR _ _ _ _ _ (b_L_isTold_216 _ w μ ν b _ _ _)
    unfold b_L_isTold_216
    rw [show ixB (18 : Int32) 22 = true from rfl, show (18 : Int32).toNatClampNeg = 18 from rfl, r18, cond_true, if_pos (Int32.le_refl _)]
    have g := td_693 (x1 := x1) hw hJ h 6 0 w (by omega) (by omega)
    rw [eO, tnI (by omega)] at g
    exact g
  | succ n ih =>
    intro o m h1 h2
    obtain ⟨m, rfl⟩ : ∃ m', m = m' + 1 := ⟨m - 1, by omega⟩
    have g := ih (o + 1) m (by omega) (by omega)
    rw [show l_L_isTold_216 w (m + 1) μ ν b x1 (ypI (agA a o)) (nI o) = l_L_isTold_216 w m μ ν b x1 (ypI (agA a (o + 1))) (nI (o + 1)) from td_step hw hN hJ h (by rw [eO, tnI (by omega)]; omega)]
    exact g
