/-! isMessage, all of it -/
variable {Hh Hg : Nat → Nat}
theorem im_step {w kd wg o1 o2 o3 o4 t f ow q : Nat} {fb : Nat → Int32} {x1 x2 x10 x11 : Int32} {k202 : MP → NC → AS → Int32 → Int32 → Int64 → Int32 → Int32 → Int32 → Int32 → Int32 → Int32 → Option (((MP × NC) × AS) × Int32)} {μ : MP} {ν : NC} {b a : AS} (h : LR Hh b a) (m1 : kd < 16) (m2 : wg < 2) (m3 : o1 ≤ 100) (m4 : o2 ≤ 100) (m5 : o3 ≤ 100) (m6 : o4 ≤ 100) (m7 : t ≤ 100000) (k11 : a 11 q = nI kd) (k14 : a 14 q = nI o1) (k15 : a 15 q = nI o2) (k16 : a 16 q = nI o3) (k17 : a 17 q = nI o4) (hF : kd = 8 → o1 = 1 → o3 + o4 ≤ tn (a 0 35)) (how : ow ≤ 403) (hb : bodyR (a 11) (a 14) (a 15) (a 16) (a 17) (a 37) (a 39) (a 40) q (2 * ow) fb) (hf : f < ow) : b_L_isMessage_202 k202 w μ ν b x1 x2 (nL (mcode kd wg o1 o2 o3 o4 t)) (nI kd) (nI o1) x10 x11 (nI ow) (nI f) = b_L_isMessage_547 k202 w μ ν b x1 x2 (nL (mcode kd wg o1 o2 o3 o4 t)) (nI kd) (nI o1) x10 x11 (nI ow) (nI f) (fb (2 * f)) (fb (2 * f + 1)) := by
  have ek : ∀ z : Nat, z < 100 → a 11 q = nI z → kd = z := fun z hz e => (nI_eq (by omega) (by omega)).mp (k11.symm.trans e)
  have eo : ∀ z : Nat, z < 100 → a 14 q = nI z → o1 = z := fun z hz e => (nI_eq (by omega) (by omega)).mp (k14.symm.trans e)
  rw [im_202 m1 m3 hf how]
  have fin : ltag kd o1 f = fb (2 * f) → nI (if f = 0 then o1 else if f = 1 then o2 else if f = 2 then o3 else o4) = fb (2 * f + 1) → ¬ (kd = 8 ∧ o1 = 1 ∧ 1 < f) → f < 4 → b_L_isMessage_364 k202 w μ ν b x1 x2 (nL (mcode kd wg o1 o2 o3 o4 t)) (nI kd) (nI o1) x10 x11 (nI ow) (nI f) (ltag kd o1 f) = b_L_isMessage_547 k202 w μ ν b x1 x2 (nL (mcode kd wg o1 o2 o3 o4 t)) (nI kd) (nI o1) x10 x11 (nI ow) (nI f) (fb (2 * f)) (fb (2 * f + 1)) := fun g1 g2 g3 g4 => by
    rw [im_364 m1 m2 m3 m4 m5 m6 m7 g4 g3, g1, g2]
  rcases hb with ⟨-, e⟩ | ⟨e11, e, b0, b1⟩ | ⟨e11, e, b0, b1, b2, b3, b4, b5, b6, b7⟩ | ⟨e11, e, b0, b1⟩ | ⟨e11, e, b0, b1, b2, b3, b4, b5⟩ | ⟨e11, b0, b1, b2, b3, hs⟩
  · omega
  · have c := ek 3 (by decide) e11
    subst c
    have f0 : f = 0 := by omega
    subst f0
    exact fin b0.symm (k14.symm.trans b1.symm) (by omega) (by decide)
  · have c := ek 5 (by decide) e11
    subst c
    rcases (show f = 0 ∨ f = 1 ∨ f = 2 ∨ f = 3 by omega) with rfl | rfl | rfl | rfl
    · exact fin b0.symm (k14.symm.trans b1.symm) (by omega) (by decide)
    · exact fin b2.symm (k15.symm.trans b3.symm) (by omega) (by decide)
    · exact fin b4.symm (k16.symm.trans b5.symm) (by omega) (by decide)
    · exact fin b6.symm (k17.symm.trans b7.symm) (by omega) (by decide)
  · have c := ek 6 (by decide) e11
    subst c
    have f0 : f = 0 := by omega
    subst f0
    exact fin b0.symm (k14.symm.trans b1.symm) (by omega) (by decide)
  · have c := ek 7 (by decide) e11
    subst c
    rcases (show f = 0 ∨ f = 1 ∨ f = 2 by omega) with rfl | rfl | rfl
    · exact fin b0.symm (k14.symm.trans b1.symm) (by omega) (by decide)
    · exact fin b2.symm (k15.symm.trans b3.symm) (by omega) (by decide)
    · exact fin b4.symm (k16.symm.trans b5.symm) (by omega) (by decide)
  · have c := ek 8 (by decide) e11
    subst c
    by_cases f0 : f = 0
    · subst f0; exact fin b0.symm (k14.symm.trans b1.symm) (by omega) (by decide)
    by_cases f1 : f = 1
    · subst f1; exact fin b2.symm (k15.symm.trans b3.symm) (by omega) (by decide)
    rcases hs with ⟨-, e⟩ | ⟨e14, f', t', e16, e17, hft, e, b4, b5, hall⟩ | ⟨e14, e, b4, b5⟩ | ⟨e14, e, b4, b5, b6, b7⟩ | ⟨e14, e, b4, b5⟩ | ⟨e14, e, b4, b5, b6, b7⟩
    · omega
    · have c1 := eo 1 (by decide) e14
      subst c1
      have d3 : o3 = f' := (nI_eq (by omega) (by omega)).mp (k16.symm.trans e16)
      have d4 : o4 = t' := (nI_eq (by omega) (by omega)).mp (k17.symm.trans e17)
      subst d3 d4
      obtain ⟨T, V, g1, g2, g3⟩ := im_fill (w := w) (x1 := x1) (x2 := x2) (x10 := x10) (x11 := x11) (x12 := nI ow) (s0 := ltag 8 1 f) (k202 := k202) (μ := μ) (ν := ν) h m2 m4 m5 m6 m7 (show 2 ≤ f by omega) (by omega) (hF rfl rfl)
      rw [g1]
      by_cases f2 : f = 2
      · obtain ⟨u1, u2⟩ := g2 f2
        subst f2
        rw [u1, u2, ← b4, ← b5]
      · obtain ⟨u1, u2⟩ := g3 ((f - 3) / 4) ((f - 3) % 4) (by omega) (Nat.mod_lt _ (by decide))
        obtain ⟨v0, v1, v2, v3, v4, v5, v6, v7⟩ := hall ((f - 3) / 4) (by omega)
        rw [u1, u2]
        rcases (show (f - 3) % 4 = 0 ∨ (f - 3) % 4 = 1 ∨ (f - 3) % 4 = 2 ∨ (f - 3) % 4 = 3 by omega) with r | r | r | r
        · rw [r, show 2 * f = 6 + 8 * ((f - 3) / 4) by omega, show 6 + 8 * ((f - 3) / 4) + 1 = 7 + 8 * ((f - 3) / 4) by omega, v0, v1]; rfl
        · rw [r, show 2 * f = 8 + 8 * ((f - 3) / 4) by omega, show 8 + 8 * ((f - 3) / 4) + 1 = 9 + 8 * ((f - 3) / 4) by omega, v2, v3]; rfl
        · rw [r, show 2 * f = 10 + 8 * ((f - 3) / 4) by omega, show 10 + 8 * ((f - 3) / 4) + 1 = 11 + 8 * ((f - 3) / 4) by omega, v4, v5]; rfl
        · rw [r, show 2 * f = 12 + 8 * ((f - 3) / 4) by omega, show 12 + 8 * ((f - 3) / 4) + 1 = 13 + 8 * ((f - 3) / 4) by omega, v6, v7]; rfl
    · have c1 := eo 2 (by decide) e14
      subst c1
      have f2 : f = 2 := by omega
      subst f2
      exact fin b4.symm (k16.symm.trans b5.symm) (by omega) (by decide)
    · have c1 := eo 3 (by decide) e14
      subst c1
      rcases (show f = 2 ∨ f = 3 by omega) with rfl | rfl
      · exact fin b4.symm (k16.symm.trans b5.symm) (by omega) (by decide)
      · exact fin b6.symm (k17.symm.trans b7.symm) (by omega) (by decide)
    · have c1 := eo 5 (by decide) e14
      subst c1
      have f2 : f = 2 := by omega
      subst f2
      exact fin b4.symm (k16.symm.trans b5.symm) (by omega) (by decide)
    · have c1 := eo 6 (by decide) e14
      subst c1
      rcases (show f = 2 ∨ f = 3 by omega) with rfl | rfl
      · exact fin b4.symm (k16.symm.trans b5.symm) (by omega) (by decide)
      · exact fin b6.symm (k17.symm.trans b7.symm) (by omega) (by decide)
theorem im_many {w kd wg o1 o2 o3 o4 t ow q : Nat} {fb : Nat → Int32} {x1 x2 x10 : Int32} {μ : MP} {ν : NC} {b a : AS} (m1 : kd < 16) (m2 : wg < 2) (m3 : o1 ≤ 100) (m4 : o2 ≤ 100) (m5 : o3 ≤ 100) (m6 : o4 ≤ 100) (m7 : t ≤ 100000) (k11 : a 11 q = nI kd) (k14 : a 14 q = nI o1) (k17 : a 17 q = nI o4) (hb : bodyR (a 11) (a 14) (a 15) (a 16) (a 17) (a 37) (a 39) (a 40) q (2 * ow) fb) : b_L_isMessage_86 w μ ν b x1 x2 (nL (mcode kd wg o1 o2 o3 o4 t)) (nI kd) (nI o1) x10 (2 : Int32) x2 = b_L_isMessage_197 w μ ν b x1 x2 (nL (mcode kd wg o1 o2 o3 o4 t)) (nI kd) (nI o1) x10 (2 : Int32) (nI ow) := by
  have hlt := mc_lt m1 m2 m3 m4 m5 m6 m7
  have p29 : f_L_part w b (nL (mcode kd wg o1 o2 o3 o4 t)) (29 : Int32) = some (nI o4) := by rw [show (29 : Int32) = nI 29 from rfl, f_part w b hlt (by decide), mc_29 m1 m2 m3 m4 m5 m6]
  have ek : ∀ z : Nat, z < 100 → a 11 q = nI z → kd = z := fun z hz e => (nI_eq (by omega) (by omega)).mp (k11.symm.trans e)
  have eo : ∀ z : Nat, z < 100 → a 14 q = nI z → o1 = z := fun z hz e => (nI_eq (by omega) (by omega)).mp (k14.symm.trans e)
  have nk : ∀ z : Nat, z < 100 → kd ≠ z → ¬ nI kd = nI z := fun z hz e => Ieq (by omega) (by omega) e
  generalize nL (mcode kd wg o1 o2 o3 o4 t) = C at *
  unfold b_L_isMessage_86
  rw [if_pos rfl]
  rcases hb with ⟨e11, e⟩ | ⟨e11, e, b0, b1⟩ | ⟨e11, e, b0, b1, b2, b3, b4, b5, b6, b7⟩ | ⟨e11, e, b0, b1⟩ | ⟨e11, e, b0, b1, b2, b3, b4, b5⟩ | ⟨e11, b0, b1, b2, b3, hs⟩
  · have hk : kd = 0 ∨ kd = 1 ∨ kd = 2 := by
      rcases e11 with e11 | e11 | e11
      · exact Or.inl (ek 0 (by decide) e11)
      · exact Or.inr (Or.inl (ek 1 (by decide) e11))
      · exact Or.inr (Or.inr (ek 2 (by decide) e11))
    rw [if_neg (show ¬ nI kd = (8 : Int32) from nk 8 (by decide) (by omega)), if_neg (show ¬ nI kd = (5 : Int32) from nk 5 (by decide) (by omega)), if_neg (show ¬ nI kd = (7 : Int32) from nk 7 (by decide) (by omega)), if_neg (show ¬ nI kd = (3 : Int32) from nk 3 (by decide) (by omega)), if_neg (show ¬ nI kd = (6 : Int32) from nk 6 (by decide) (by omega)), show ow = 0 by omega]
    rfl
  · have c := ek 3 (by decide) e11
    subst c
    rw [if_neg (by decide), if_neg (by decide), if_neg (by decide), if_pos (by decide), show ow = 1 by omega]
    rfl
  · have c := ek 5 (by decide) e11
    subst c
    rw [if_neg (by decide), if_pos (by decide), show ow = 4 by omega]
    rfl
  · have c := ek 6 (by decide) e11
    subst c
    rw [if_neg (by decide), if_neg (by decide), if_neg (by decide), if_neg (by decide), if_pos (by decide), show ow = 1 by omega]
    rfl
  · have c := ek 7 (by decide) e11
    subst c
    rw [if_neg (by decide), if_neg (by decide), if_pos (by decide), show ow = 3 by omega]
    rfl
  · have c := ek 8 (by decide) e11
    subst c
    rw [if_pos (by decide)]
    rcases hs with ⟨e14, e⟩ | ⟨e14, f', t', e16, e17, hft, e, b4, b5, hall⟩ | ⟨e14, e, b4, b5⟩ | ⟨e14, e, b4, b5, b6, b7⟩ | ⟨e14, e, b4, b5⟩ | ⟨e14, e, b4, b5, b6, b7⟩
    · rcases e14 with e14 | e14
      · have c1 := eo 0 (by decide) e14
        subst c1
        rw [if_neg (by decide), if_neg (by decide), if_neg (by decide), if_neg (by decide), if_neg (by decide), show ow = 2 by omega]
        rfl
      · have c1 := eo 4 (by decide) e14
        subst c1
        rw [if_neg (by decide), if_neg (by decide), if_neg (by decide), if_neg (by decide), if_neg (by decide), show ow = 2 by omega]
        rfl
    · have c1 := eo 1 (by decide) e14
      subst c1
      have d4 : o4 = t' := (nI_eq (by omega) (by omega)).mp (k17.symm.trans e17)
      rw [if_pos (by decide), p29, Option.bind_some]
      unfold b_L_isMessage_154
      rw [show (2 : Int32) + ((1 : Int32) + (4 : Int32) * nI o4) = nI ow from by
        rw [show (4 : Int32) = nI 4 from rfl, I_mul, show (1 : Int32) = nI 1 from rfl, nI_add, show (2 : Int32) = nI 2 from rfl, nI_add]
        congr 1
        omega]
    · have c1 := eo 2 (by decide) e14
      subst c1
      rw [if_neg (by decide), if_pos (by decide), show ow = 3 by omega]
      rfl
    · have c1 := eo 3 (by decide) e14
      subst c1
      rw [if_neg (by decide), if_neg (by decide), if_neg (by decide), if_pos (by decide), show ow = 4 by omega]
      rfl
    · have c1 := eo 5 (by decide) e14
      subst c1
      rw [if_neg (by decide), if_neg (by decide), if_pos (by decide), show ow = 3 by omega]
      rfl
    · have c1 := eo 6 (by decide) e14
      subst c1
      rw [if_neg (by decide), if_neg (by decide), if_neg (by decide), if_neg (by decide), if_pos (by decide), show ow = 4 by omega]
      rfl
theorem im_loop {w s n kd wg o1 o2 o3 o4 t ow : Nat} {fb : Nat → Int32} {μ : MP} {ν : NC} {b a : AS} (h : LR Hh b a) (m1 : kd < 16) (m2 : wg < 2) (m3 : o1 ≤ 100) (m4 : o2 ≤ 100) (m5 : o3 ≤ 100) (m6 : o4 ≤ 100) (m7 : t ≤ 100000) (k11 : a 11 (8192 * s + n) = nI kd) (k14 : a 14 (8192 * s + n) = nI o1) (k15 : a 15 (8192 * s + n) = nI o2) (k16 : a 16 (8192 * s + n) = nI o3) (k17 : a 17 (8192 * s + n) = nI o4) (hF : kd = 8 → o1 = 1 → o3 + o4 ≤ tn (a 0 35)) (hK : msgK w μ ν a s n ow fb) (hb : bodyR (a 11) (a 14) (a 15) (a 16) (a 17) (a 37) (a 39) (a 40) (8192 * s + n) (2 * ow) fb) : ∀ (d f m : Nat), f + d = ow → d < m → l_L_isMessage_202 w m μ ν b (nI s) (nI n) (nL (mcode kd wg o1 o2 o3 o4 t)) (nI kd) (nI o1) (sm (mFF a s n ow fb) (2 * (2 + f))) (nI (2 + f)) (nI ow) (nI f) = (f_L_fields w μ ν (nI s) (nI n)).bind (fun v11 => b_L_isMessage_600 w v11.1.1 v11.1.2 b (nI s) (nI n) (sm (mFF a s n ow fb) (2 * (2 + ow))) (nI (2 + ow)) v11.2) := by
  obtain ⟨how, hfl, hat, hX⟩ := hK
  intro d
  induction d with
  | zero =>
    intro f m h1 h2
    obtain ⟨m, rfl⟩ : ∃ m', m = m' + 1 := ⟨m - 1, by omega⟩
    have : f = ow := by omega
    subst this
    show b_L_isMessage_202 _ w μ ν b _ _ _ _ _ _ _ _ _ = _
    unfold b_L_isMessage_202
    rw [if_pos ((nI_leI (by omega) (by omega)).mpr (Nat.le_refl _))]
  | succ d ih =>
    intro f m h1 h2
    obtain ⟨m, rfl⟩ : ∃ m', m = m' + 1 := ⟨m - 1, by omega⟩
    obtain ⟨t1, t2⟩ := hat (2 + f) (by omega)
    have eT : mFF a s n ow fb (2 * (2 + f)) = fb (2 * f) := by rw [show 2 * (2 + f) = 4 + 2 * f by omega]; exact mF_b _ _ _ _ _ (by omega)
    have eV : mFF a s n ow fb (2 * (2 + f) + 1) = fb (2 * f + 1) := by rw [show 2 * (2 + f) + 1 = 4 + (2 * f + 1) by omega]; exact mF_b _ _ _ _ _ (by omega)
    rw [← ih (f + 1) m (by omega) (by omega)]
    show b_L_isMessage_202 (l_L_isMessage_202 w m) w μ ν b _ _ _ _ _ _ _ _ _ = _
    rw [im_step h m1 m2 m3 m4 m5 m6 m7 k11 k14 k15 k16 k17 hF how hb (show f < ow by omega)]
    unfold b_L_isMessage_547
    rw [t1, Option.bind_some, eT]
    unfold b_L_isMessage_555
    rw [if_pos rfl, t2, Option.bind_some, eV]
    unfold b_L_isMessage_568
    rw [if_pos rfl]
    simp only [yl]
    rw [show sm (mFF a s n ow fb) (2 * (2 + f)) + (fb (2 * f) + fb (2 * f + 1)) = sm (mFF a s n ow fb) (2 * (2 + (f + 1))) from by rw [show 2 + (f + 1) = (2 + f) + 1 by omega, sm_2, eT, eV], show nI (2 + f) + (1 : Int32) = nI (2 + (f + 1)) from nI_add (2 + f) 1, show nI f + (1 : Int32) = nI (f + 1) from nI_add f 1]
theorem lk_msg {w N T s n : Nat} {μ : MP} {ν : NC} {b a : AS} (hw : 1000 < w) (hN : N ≤ 512) (hs : s < 2) (hJ : JC N T μ ν a) (h : LR Hh b a) (h1 : 1 ≤ n) (hn : n ≤ tn (a 4 s)) : ∃ ν' : NC, f_L_isMessage w μ ν b (nI s) (nI n) = some (((μ, ν'), b), (1 : Int32)) ∧ JC N (T + 2) μ ν' a := by
  have hR := JC_RR hJ
  have hv := JC_sv hJ
  obtain ⟨K0, O, E, R, -, mi⟩ := JC_MI hN hJ
  obtain ⟨ow, fb, hK, hK', hb⟩ := msgK_of (w := w) hR hs h1 hn
  obtain ⟨N', e4', hN', hall⟩ := h.2.2.2.1 s hs
  have hnN : n ≤ N' := by rw [e4', tnI (by omega)] at hn; exact hn
  obtain ⟨kd, wg, o1, o2, o3, o4, t, m1, m2, m3, m4, m5, m6, m7, eC, k11, k12, k13, k14, k15, k16, k17, -⟩ := hall n h1 hnN
  have eC2 : lgA b (4 + s) n = nL (mcode kd wg o1 o2 o3 o4 t) := eC
  have hF : kd = 8 → o1 = 1 → o3 + o4 ≤ tn (a 0 35) := fun c8 c1 => by
    obtain ⟨kd', q1, q2, q3, q4, q5⟩ := sv_kd hv hs h1 hn
    have ekd : kd' = kd := (nI_eq (by omega) (by omega)).mp (q1.symm.trans k11)
    have s1 : s = 1 := by
      rcases (show s = 0 ∨ s = 1 by omega) with z | z
      · have := q4 z; omega
      · exact z
    obtain ⟨σ, o, g1, g2, g3, g4, gF, -⟩ := (MI_mm1 mi s n hs h1 hn).2.2.2 s1 (by rw [k11, c8])
    have es : o1 = σ := (nI_eq (by omega) (by omega)).mp (k14.symm.trans g1)
    obtain ⟨f, u, z1, z2, z3, -⟩ := gF (by omega)
    have hE100 := (MI_O mi).2.2.2.1
    have y1 : o3 = f := (nI_eq (by omega) (by omega)).mp (k16.symm.trans z1)
    have y2 : o4 = u := (nI_eq (by omega) (by omega)).mp (k17.symm.trans z2)
    rw [(MI_O mi).2.1]
    omega
  obtain ⟨how, hfl, hat, hX⟩ := id hK
  obtain ⟨-, -, -, hX'⟩ := id hK'
  obtain ⟨g0, g1, g2, g3⟩ := mF_h (a 11 (8192 * s + n)) (nI n) (2 * ow) fb
  have hlt := mc_lt m1 m2 m3 m4 m5 m6 m7
  have p5 : f_L_part w b (nL (mcode kd wg o1 o2 o3 o4 t)) (5 : Int32) = some (nI o1) := by rw [show (5 : Int32) = nI 5 from rfl, f_part w b hlt (by decide), mc_5 m1 m2 m3 m4 m5 m6]
  have hl : lnB (4 + s) 64 = true := by rcases (show s = 0 ∨ s = 1 by omega) with rfl | rfl <;> decide
  obtain ⟨a0, a0'⟩ := hat 0 (by omega)
  obtain ⟨a1, a1'⟩ := hat 1 (by omega)
  have e69 : (69 : Int32) + nI kd + nI n = sm (mFF a s n ow fb) (2 * (2 + 0)) := by
    show _ = (((0 + mFF a s n ow fb 0) + mFF a s n ow fb 1) + mFF a s n ow fb 2) + mFF a s n ow fb 3
    rw [show mFF a s n ow fb 0 = nI 35 from g0, show mFF a s n ow fb 1 = nI kd from g1.trans k11, show mFF a s n ow fb 2 = nI 34 from g2, show mFF a s n ow fb 3 = nI n from g3, show (69 : Int32) = nI 69 from rfl, show (0 : Int32) = nI 0 from rfl, nI_add, nI_add, nI_add, nI_add, nI_add, nI_add]
    congr 1
    omega
  -- the sum
  obtain ⟨v1, v2⟩ := body_v (MI_vOk mi) hs h1 hn hb
  obtain ⟨NN, N1, N2⟩ := sm_nI (f := mFF a s n ow fb) (B := 10000) (2 * ow + 4) (fun j hj => by
    rcases (show j = 0 ∨ j = 1 ∨ j = 2 ∨ j = 3 ∨ 4 ≤ j by omega) with rfl | rfl | rfl | rfl | j4
    · exact ⟨35, by decide, g0⟩
    · rw [show mFF a s n ow fb 1 = _ from g1]; exact v1
    · exact ⟨34, by decide, g2⟩
    · exact ⟨n, by omega, g3⟩
    · rw [show j = 4 + (j - 4) by omega, show mFF a s n ow fb (4 + (j - 4)) = _ from mF_b _ _ _ _ _ (by omega)]
      exact v2 (j - 4) (by omega))
  have ef : mFF a s n ow fb (2 * (2 + ow) + 1) = sm (mFF a s n ow fb) (2 * (2 + ow)) - sm (mFF a s n ow fb) (2 * (2 + ow)) / 256 * 256 := by
    rw [show 2 * (2 + ow) = 2 * ow + 4 by omega, N2]
    show up1 _ (2 * ow + 5) _ (2 * ow + 5) = _
    rw [up1_s, ← sm_congr (2 * ow + 4) (fun j hj => mF_r (a 11 (8192 * s + n)) (nI n) (2 * ow) fb j hj)]
    show fmd (sm (mFF a s n ow fb) (2 * ow + 4)) = _
    rw [N2, fmd_n (by omega)]
  have hlast := hat (2 + ow) (by omega)
  have e10 : mFF a s n ow fb (2 * (2 + ow)) = nI 10 := by rw [show 2 * (2 + ow) = 2 * ow + 4 by omega]; exact mF_10 _ _ _ _
  have hend : (f_L_fields w μ ν (nI s) (nI n)).bind (fun v11 => b_L_isMessage_600 w v11.1.1 v11.1.2 b (nI s) (nI n) (sm (mFF a s n ow fb) (2 * (2 + ow))) (nI (2 + ow)) v11.2) = some (((μ, chg (chg ν 1 6) 1 6), b), (1 : Int32)) := by
    rw [hfl, Option.bind_some]
    unfold b_L_isMessage_600
    rw [if_pos (show nI (ow + 3) = nI (2 + ow) + (1 : Int32) from by rw [show nI (2 + ow) + (1 : Int32) = nI (2 + ow + 1) from nI_add (2 + ow) 1]; congr 1; omega), hlast.1, Option.bind_some, e10]
    unfold b_L_isMessage_615
    rw [if_pos (show nI 10 = (10 : Int32) from rfl), hlast.2, Option.bind_some, ef]
    unfold b_L_isMessage_628
    rw [if_pos rfl, show nI (2 + ow) + (1 : Int32) = nI (ow + 3) from by rw [show nI (2 + ow) + (1 : Int32) = nI (2 + ow + 1) from nI_add (2 + ow) 1]; congr 1; omega, (hX (nI (ow + 3)) (Or.inr (Int32.le_refl _))).1, Option.bind_some]
    unfold b_L_isMessage_647
    rw [if_pos rfl, (hX' (-1 : Int32) (Or.inl (by decide))).2, Option.bind_some]
    unfold b_L_isMessage_660
    rw [if_pos rfl]
  refine ⟨chg (chg ν 1 6) 1 6, ?_, JC_thr (JC_thr hJ)⟩
  rw [← hend, ← im_loop (w := w) h m1 m2 m3 m4 m5 m6 m7 k11 k14 k15 k16 k17 hF hK hb ow 0 w (by omega) (by omega)]
  have k10 : ∀ j, j = 4 + s → b_L_isMessage_10 w μ ν b (nI s) (nI n) j = l_L_isMessage_202 w w μ ν b (nI s) (nI n) (nL (mcode kd wg o1 o2 o3 o4 t)) (nI kd) (nI o1) (sm (mFF a s n ow fb) (2 * (2 + 0))) (nI (2 + 0)) (nI ow) (nI 0) := fun j hj => by
    subst hj
    unfold b_L_isMessage_10
    rw [hl, ixn (show n < 64 by omega) (by decide), nI_clamp (show n < 2 ^ 31 by omega), eC2]
    simp only [cond_true, yl]
    rw [mc_kind m1 m2 m3 m4 m5 m6 m7, p5, Option.bind_some, show (0 : Int32) = nI 0 from rfl, a0, Option.bind_some, show mFF a s n ow fb (2 * 0) = nI 35 from g0]
    unfold b_L_isMessage_50
    rw [if_pos (show nI 35 = (35 : Int32) from rfl), show (0 : Int32) = nI 0 from rfl, a0', Option.bind_some, show mFF a s n ow fb (2 * 0 + 1) = nI kd from g1.trans k11]
    unfold b_L_isMessage_62
    rw [if_pos rfl, show (1 : Int32) = nI 1 from rfl, a1, Option.bind_some, show mFF a s n ow fb (2 * 1) = nI 34 from g2]
    unfold b_L_isMessage_74
    rw [if_pos (show nI 34 = (34 : Int32) from rfl), show (1 : Int32) = nI 1 from rfl, a1', Option.bind_some, show mFF a s n ow fb (2 * 1 + 1) = nI n from g3, im_many m1 m2 m3 m4 m5 m6 m7 k11 k14 k17 hb, e69]
    rfl
  unfold f_L_isMessage
  rcases (show s = 0 ∨ s = 1 by omega) with rfl | rfl
  · rw [if_pos (show nI 0 = (0 : Int32) from rfl)]; exact k10 4 rfl
  · rw [if_neg (show ¬ nI 1 = (0 : Int32) by decide)]; exact k10 5 rfl
