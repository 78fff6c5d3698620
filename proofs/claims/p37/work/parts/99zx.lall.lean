/-! All turns, what they cost, and the whole. -/
variable {Hh Hg : Nat → Nat}
theorem tu_all {L w : Nat} {xs : Nat → Int32} (hL : L ≤ 260) (hw : 8200 < w) : ∀ (d i m : Nat) (μ : MP) (ν : NC) (b a : AS), i + d = 130 → d < m → JC (2 * i) (23 + 31 * i) μ ν a → LR Zh b a → ∃ (μ' : MP) (ν' : NC) (b' a' : AS), l_L_law_136 L xs w m μ ν b (nI i) = some (((μ', ν'), b'), (1 : Int32)) ∧ JC 260 4053 μ' ν' a' := by
  intro d
  induction d with
  | zero =>
    intro i m μ ν b a h1 h2 hJ h
    obtain ⟨m, rfl⟩ : ∃ m', m = m' + 1 := ⟨m - 1, by omega⟩
    have : i = 130 := by omega
    subst this
    refine ⟨μ, ν, b, a, ?_, JC_le hJ (by omega) (by omega)⟩
    show b_L_law_136 L xs _ w μ ν b _ = _
    unfold b_L_law_136
    rw [if_pos (show (130 : Int32) ≤ nI 130 by decide)]
  | succ d ih =>
    intro i m μ ν b a h1 h2 hJ h
    obtain ⟨m, rfl⟩ : ∃ m', m = m' + 1 := ⟨m - 1, by omega⟩
    rcases tu_136 (L := L) (xs := xs) (k136 := l_L_law_136 L xs w m) hL (show i < 130 by omega) hw (show 2 * i + 2 ≤ 512 by omega) hJ h with g | ⟨μ', ν', b', a', e, hJ', h'⟩
    · exact ⟨μ, ν, b, a, g, JC_le hJ (by omega) (by omega)⟩
    · obtain ⟨μ2, ν2, b2, a2, e2, hJ2⟩ := ih (i + 1) m μ' ν' b' a' (by omega) (by omega) (JC_le hJ' (by omega) (by omega)) h'
      exact ⟨μ2, ν2, b2, a2, e.trans e2, hJ2⟩
theorem JC_cost {N T : Nat} {μ : MP} {ν : NC} {a : AS} (hN : N ≤ 512) (hT : T ≤ 5000) (h : JC N T μ ν a) : kc ν ≤ 299000 ∧ ks ν ≤ 2990000 := by
  obtain ⟨n, l0, l1, k1, k2, k3, k4, k5⟩ := JC_d h
  obtain ⟨hO, -⟩ := KA_O k2
  obtain ⟨-, gL, gb, gt, gG, gz, hD, hp⟩ := k2.1
  obtain ⟨p1, p2, p3⟩ := pot_lg (by omega) hO hp
  obtain ⟨h0, hF, h1, h2, h3, h4, h5, h6, h7, h8, h9⟩ := k3
  obtain ⟨-, n0, -, -, -, a0, -⟩ := h3.1 0 (by decide)
  obtain ⟨-, n1, -, -, -, a1, -⟩ := h3.1 1 (by decide)
  obtain ⟨-, k20, -, b1, b2, b3, b4, -⟩ := h6
  obtain ⟨-, k23, -, b5, b6, b7, b8, -⟩ := h7
  obtain ⟨_, _, _, -, -, -, -, -, -, -, -, -, w0, -⟩ := h4 0 (by decide)
  obtain ⟨_, _, _, -, -, -, -, -, -, -, -, -, w1, -⟩ := h4 1 (by decide)
  obtain ⟨-, -, v0, -⟩ := h5 0 (by decide)
  obtain ⟨-, -, v1, -⟩ := h5 1 (by decide)
  obtain ⟨_, -, -, -, r0, -⟩ := h9 0 (by decide)
  obtain ⟨_, -, -, -, r1, -⟩ := h9 1 (by decide)
  unfold RC at k5
  unfold bal at k4
  unfold lgN at p1 p2
  replace a0 : ν.1 5 0 ≤ 12300 := a0
  replace a1 : ν.1 5 1 ≤ 12300 := a1
  replace b2 : ν.2 20 = k20 := b2
  replace b4 : ν.1 5 2 ≤ 12300 := b4
  replace b6 : ν.2 23 = k23 := b6
  replace b8 : ν.1 5 5 ≤ 12300 := b8
  replace w0 : ν.1 10 0 ≤ 131072 := w0
  replace w1 : ν.1 10 1 ≤ 131072 := w1
  replace v0 : ν.1 13 0 ≤ 16400 := v0
  replace v1 : ν.1 13 1 ≤ 16400 := v1
  replace r0 : ν.1 5 3 ≤ 12300 := r0
  replace r1 : ν.1 5 4 ≤ 12300 := r1
  replace p1 : tn (a 4 0) + l0 ≤ 2600 := p1
  replace p2 : tn (a 4 1) + l1 ≤ bH n := p2
  omega
theorem law_pure {L : Nat} {xs : Nat → Int32} (hL : L ≤ 260) : ∃ (w : Nat) (r0 : ((MP × NC) × AS) × Int32), b_L_law_90 L xs w c1μ c1ν z1a = some r0 ∧ kc r0.1.1.2 - kc c1ν ≤ 299000 ∧ ks r0.1.1.2 - ks c1ν ≤ 2990000 := by
  have hJ : JC 0 0 c1μ c1ν c1a := c1_KB
  have h : LR Zh (up2 (up2 z1a 1 6 (nI 1)) 1 7 (nI 1)) c1a := lr_first
  obtain ⟨ν', e, hJ'⟩ := lk_told (w := 9000) (x1 := 0) (by decide) (by decide) hJ h
  obtain ⟨μ2, ν2, b2, a2, e2, hJ2⟩ := tu_all (L := L) (w := 9000) (xs := xs) hL (by decide) 130 0 9000 c1μ ν' (up2 (up2 z1a 1 6 (nI 1)) 1 7 (nI 1)) c1a (by decide) (by decide) (JC_le hJ' (by decide) (by decide)) h
  obtain ⟨q1, q2⟩ := JC_cost (by decide) (by decide) hJ2
  refine ⟨9000, (((μ2, ν2), b2), (1 : Int32)), ?_, Nat.le_trans (Nat.sub_le _ _) q1, Nat.le_trans (Nat.sub_le _ _) q2⟩
  · unfold b_L_law_90
    rw [show ixB (6 : Int32) 22 = true from rfl, show (6 : Int32).toNatClampNeg = 6 from rfl, show ixB (7 : Int32) 22 = true from rfl, show (7 : Int32).toNatClampNeg = 7 from rfl, cond_true]
    simp only [yl, cond_true]
    rw [show (f_L_isTold 9000 c1μ c1ν (up2 (up2 z1a 1 6 (1 : Int32)) 1 7 (1 : Int32)) (0 : Int32)) = _ from e, Option.bind_some]
    unfold b_L_law_128
    dsimp only
    rw [if_neg (show ¬ (1 : Int32) = 0 by decide)]
    exact e2
