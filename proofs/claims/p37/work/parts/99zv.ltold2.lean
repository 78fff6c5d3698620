/-! isTold, all of it -/
variable {Hh Hg : Nat → Nat}
theorem hcnt_64 {b18 : Nat → Int32} {s : Nat} (h : ∀ n, 64 ≤ n → n < 8192 → b18 (8192 * s + n) = nI 0) : ∀ d, 64 + d ≤ 8192 → hcnt b18 s (64 + d) = hcnt b18 s 64 := by
  intro d
  induction d with
  | zero => intro _; rfl
  | succ d ih =>
    intro hd
    show hcnt b18 s (64 + d) + (if b18 (8192 * s + (64 + d)) = nI 0 then 0 else 1) = _
    rw [if_pos (h (64 + d) (by omega) (by omega)), ih (by omega)]
    rfl
theorem td_15 {w s : Nat} {x1 : Int32} {k3 : MP → NC → AS → Int32 → Int32 → Option (((MP × NC) × AS) × Int32)} {μ : MP} {ν : NC} {b a : AS} (h : LR Zh b a) (hs : s < 2) : ∀ (n i m : Nat), i + n = 64 → n < m → l_L_isTold_15 k3 w m μ ν b x1 (nI s) (nI (hcnt (a 18) s i)) (nI i) = (f_L_isOn w μ ν (nI s)).bind (fun v78 => b_L_isTold_62 k3 w v78.1.1 v78.1.2 b x1 (nI s) (nI (hcnt (a 18) s 64)) v78.2) := by
  intro n
  induction n with
  | zero =>
    intro i m h1 h2
    obtain ⟨m, rfl⟩ : ∃ m', m = m' + 1 := ⟨m - 1, by omega⟩
    have : i = 64 := by omega
    subst this
    show b_L_isTold_15 k3 _ w μ ν b _ _ _ _ = _
    unfold b_L_isTold_15
    rw [if_pos (show (64 : Int32) ≤ nI 64 by decide)]
  | succ n ih =>
    intro i m h1 h2
    obtain ⟨m, rfl⟩ : ∃ m', m = m' + 1 := ⟨m - 1, by omega⟩
    have hi : i < 64 := by omega
    have hle := hcnt_le (a 18) s i
    rw [← ih (i + 1) m (by omega) (by omega)]
    show b_L_isTold_15 k3 (l_L_isTold_15 k3 w m) w μ ν b _ _ _ _ = _
    obtain ⟨v, g1, g2, g3, g4, -⟩ := h.2.2.2.2.1 s hs i (by omega) (Nat.zero_le _)
    have hr := g4 hi
    have en : nI i + (1 : Int32) = nI (i + 1) := nI_add i 1
    have hc : hcnt (a 18) s (i + 1) = hcnt (a 18) s i + (if v = 0 then 0 else 1) := by
      show hcnt (a 18) s i + (if a 18 (8192 * s + i) = nI 0 then 0 else 1) = _
      rw [g1]
      by_cases c : v = 0
      · rw [if_pos c, if_pos (by rw [c])]
      · rw [if_neg c, if_neg (fun z => c ((nI_eq (by omega) (by decide)).mp z))]
    have k36 : inB (6 + s) 64 = true → b_L_isTold_36 k3 (l_L_isTold_15 k3 w m) w μ ν b x1 (nI s) (nI i) (6 + s) (nI (hcnt (a 18) s i)) = l_L_isTold_15 k3 w m μ ν b x1 (nI s) (nI (hcnt (a 18) s (i + 1))) (nI (i + 1)) := fun hB => by
      unfold b_L_isTold_36
      rw [hB, cond_true, ixn hi (by decide), nI_clamp (show i < 2 ^ 31 by omega), hr, cond_true]
      by_cases c : v = 0
      · subst c
        rw [if_pos (by decide)]
        unfold b_L_isTold_47
        simp only [yl]
        rw [Int32.add_zero, en, hc, if_pos rfl]
        rfl
      · rw [if_neg (show ¬ nI (if v ≤ 1 then v else v - 1) ≤ (0 : Int32) from fun z => by
          have := (nI_leI (a := if v ≤ 1 then v else v - 1) (b := 0) (by split <;> omega) (by decide)).mp z
          split at this <;> omega)]
        unfold b_L_isTold_47
        simp only [yl]
        rw [en, hc, if_neg c, show nI (hcnt (a 18) s i) + (1 : Int32) = nI (hcnt (a 18) s i + 1) from nI_add _ 1]
    unfold b_L_isTold_15
    rw [if_neg (show ¬ (64 : Int32) ≤ nI i from fun z => by have := (nI_leI (a := 64) (b := i) (by decide) (by omega)).mp z; omega)]
    rcases (show s = 0 ∨ s = 1 by omega) with rfl | rfl
    · rw [if_pos (show nI 0 = (0 : Int32) from rfl)]
      exact k36 (by decide)
    · rw [if_neg (show ¬ nI 1 = (0 : Int32) by decide)]
      exact k36 (by decide)
/-- one side -/
theorem td_side {w N T s : Nat} {x1 : Int32} {k3 : MP → NC → AS → Int32 → Int32 → Option (((MP × NC) × AS) × Int32)} {μ : MP} {ν : NC} {b a : AS} (hw : 1000 < w) (hN : N ≤ 512) (hJ : JC N T μ ν a) (h : LR Zh b a) (hs : s < 2) : ∃ ν' : NC, b_L_isTold_3 k3 w μ ν b x1 (nI s) = k3 μ ν' b x1 (nI (s + 1)) ∧ JC N (T + 4) μ ν' a := by
  obtain ⟨g1, g2, g3, g4, g5, g6, gS⟩ := h.2.1
  obtain ⟨r2, r4, r6, r8, r10, r12, r14, r16⟩ := gS s hs
  obtain ⟨P, e4, hP, -⟩ := h.2.2.2.1 s hs
  have hR := JC_RR hJ
  have e6 : a 6 s = nI (hcnt (a 18) s 64) := by
    obtain ⟨x1, x2, -⟩ := hR.2.2.2.2.2.2.1 s hs
    rw [x2, ← hcnt_64 (b18 := a 18) (s := s) (fun n h1 h2 => by
      obtain ⟨v, y1, y2, y3, y4, y5⟩ := h.2.2.2.2.1 s hs n h2 (Nat.zero_le _)
      rw [y1, y5 h1]) 8128 (by omega)]
  have en : nI s + (1 : Int32) = nI (s + 1) := nI_add s 1
  have i2 : (2 : Int32) + nI s = nI (2 + s) := nI_add 2 s
  have i4 : (4 : Int32) + nI s = nI (4 + s) := nI_add 4 s
  have i6 : (6 : Int32) + nI s = nI (6 + s) := nI_add 6 s
  have i16 : (16 : Int32) + nI s = nI (16 + s) := nI_add 16 s
  have J1 := JC_thr hJ
  have J2 := JC_thr J1
  have key : b_L_isTold_3 k3 w μ ν b x1 (nI s) = b_L_isTold_156 k3 w μ (chg (chg ν 1 6) 1 6) b x1 (nI s) (-7100 : Int32) := by
    unfold b_L_isTold_3
    rw [if_neg (show ¬ (2 : Int32) ≤ nI s from fun z => by have := (nI_leI (a := 2) (b := s) (by decide) (by omega)).mp z; omega)]
    rw [show l_L_isTold_15 k3 w w μ ν b x1 (nI s) (0 : Int32) (0 : Int32) = _ from td_15 (w := w) (x1 := x1) (k3 := k3) h hs 64 0 w (by omega) (by omega), jq_isOn (w := w) hJ hs, Option.bind_some]
    unfold b_L_isTold_62
    dsimp only
    rw [i2, ixn (show 2 + s < 22 by omega) (by decide), nI_clamp (show 2 + s < 2 ^ 31 by omega), r2, cond_true, if_pos rfl, jq_sent (w := w) hJ hs, Option.bind_some]
    unfold b_L_isTold_77
    dsimp only
    rw [i4, ixn (show 4 + s < 22 by omega) (by decide), nI_clamp (show 4 + s < 2 ^ 31 by omega), r4, cond_true, if_pos rfl, jq_expected (w := w) hJ hs, Option.bind_some]
    unfold b_L_isTold_92
    dsimp only
    rw [i6, ixn (show 6 + s < 22 by omega) (by decide), nI_clamp (show 6 + s < 2 ^ 31 by omega), r6, cond_true, if_pos rfl, jq_onWay (w := w) hJ hs, Option.bind_some]
    unfold b_L_isTold_108
    dsimp only
    rw [i16, ixn (show 16 + s < 22 by omega) (by decide), nI_clamp (show 16 + s < 2 ^ 31 by omega), r16, cond_true, if_pos rfl, jq_held (w := w) hJ hs, Option.bind_some]
    unfold b_L_isTold_124
    dsimp only
    rw [if_pos e6, jc_fieldsX (w := w) (x := nI s) (y := 0) hJ (Or.inr ⟨s, hs, rfl, Or.inl (by decide)⟩), Option.bind_some]
    unfold b_L_isTold_136
    dsimp only
    rw [if_pos rfl, i4, ixn (show 4 + s < 22 by omega) (by decide), nI_clamp (show 4 + s < 2 ^ 31 by omega), r4, cond_true, jc_fieldsX (w := w) (x := nI s) (y := a 4 s + 1) J1 (Or.inr ⟨s, hs, rfl, Or.inr (by rw [e4, show nI P + (1 : Int32) = nI (P + 1) from nI_add P 1, nI_ltI (by omega) (by omega)]; omega)⟩), Option.bind_some]
  rw [key]
  unfold b_L_isTold_156
  rw [if_pos rfl, i4, ixn (show 4 + s < 22 by omega) (by decide), nI_clamp (show 4 + s < 2 ^ 31 by omega), r4, cond_true, e4]
  have k204 : ∀ ν'' : NC, b_L_isTold_204 k3 w μ ν'' b x1 (nI s) = k3 μ ν'' b x1 (nI (s + 1)) := fun ν'' => by
    unfold b_L_isTold_204
    simp only [yl]
    rw [en]
  by_cases c : P = 0
  · rw [if_pos (show nI P ≤ (0 : Int32) by rw [c]; decide), k204]
    exact ⟨_, rfl, JC_le J2 (Nat.le_refl _) (by omega)⟩
  · rw [if_neg (show ¬ nI P ≤ (0 : Int32) from fun z => by have := (nI_leI (a := P) (b := 0) (by omega) (by decide)).mp z; omega)]
    obtain ⟨r, hr, el⟩ := lk_low w b (x1 >>> (nI s &&& 31)) (show 1 ≤ P by omega) (show P < 2 ^ 31 by omega)
    obtain ⟨ν', e, hJ'⟩ := lk_msg (w := w) (n := 1 + r) hw hN hs J2 h (by omega) (by rw [e4, tnI (by omega)]; omega)
    rw [el, Option.bind_some, show (1 : Int32) + nI r = nI (1 + r) from nI_add 1 r, e, Option.bind_some]
    unfold b_L_isTold_199
    dsimp only
    rw [if_neg (by decide), k204]
    exact ⟨_, rfl, JC_le hJ' (Nat.le_refl _) (by omega)⟩
theorem td_3 {w N : Nat} {x1 : Int32} {μ : MP} {b a : AS} (hw : 1000 < w) (hN : N ≤ 512) (h : LR Zh b a) : ∀ (n s m T : Nat) (ν : NC), s + n = 2 → n < m → JC N T μ ν a → tdR N (T + 4 * n + 15) μ b a (l_L_isTold_3 w m μ ν b x1 (nI s)) := by
  obtain ⟨O, eO, hO⟩ := LR_O h
  intro n
  induction n with
  | zero =>
    intro s m T ν h1 h2 hJ
    obtain ⟨m, rfl⟩ : ∃ m', m = m' + 1 := ⟨m - 1, by omega⟩
    have : s = 2 := by omega
    subst this
    show tdR _ _ _ _ _ (b_L_isTold_3 _ w μ ν b _ _)
    unfold b_L_isTold_3
    rw [if_pos (show (2 : Int32) ≤ nI 2 by decide)]
    have g := td_216 (x1 := x1) hw hN hJ h eO hO O 0 w (by omega) (by omega)
    rw [show ypI (agA a 0) = (1 : Int32) from ypI_t trivial] at g
    exact g
  | succ n ih =>
    intro s m T ν h1 h2 hJ
    obtain ⟨m, rfl⟩ : ∃ m', m = m' + 1 := ⟨m - 1, by omega⟩
    obtain ⟨ν', e, hJ'⟩ := td_side (k3 := l_L_isTold_3 w m) (x1 := x1) hw hN hJ h (show s < 2 by omega)
    have g := ih (s + 1) m (T + 4) ν' (by omega) (by omega) hJ'
    rw [show l_L_isTold_3 w (m + 1) μ ν b x1 (nI s) = l_L_isTold_3 w m μ ν' b x1 (nI (s + 1)) from e]
    exact td_le g (by omega)
theorem lk_told {w N T : Nat} {x1 : Int32} {μ : MP} {ν : NC} {b a : AS} (hw : 1000 < w) (hN : N ≤ 512) (hJ : JC N T μ ν a) (h : LR Zh b a) : tdR N (T + 23) μ b a (f_L_isTold w μ ν b x1) :=
  td_3 hw hN h 2 0 w T ν (by omega) (by omega) hJ
