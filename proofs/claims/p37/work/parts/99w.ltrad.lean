/-! trader -/
variable {Hh : Nat → Nat}
theorem Ieq {a b : Nat} (ha : a < 2 ^ 31) (hb : b < 2 ^ 31) (h : a ≠ b) : ¬ nI a = nI b := fun e => h ((nI_eq ha hb).mp e)
theorem tr_123 {w σ o : Nat} {x y : Int32} {b : AS} (hσ : σ ≤ 6) (h2 : σ ≠ 2) (h3 : σ ≠ 3) : b_L_trader_123 w b (nI σ) (nI o) x y = b_L_trader_156 w b (nI σ) (nI o) x y := by
  unfold b_L_trader_123
  rw [if_neg (show ¬ nI σ = (2 : Int32) from Ieq (b := 2) (by omega) (by decide) h2)]
  unfold b_L_trader_138
  rw [if_neg (show ¬ nI σ = (3 : Int32) from Ieq (b := 3) (by omega) (by decide) h3)]
theorem tr_191 {w σ o : Nat} {x y : Int32} {b : AS} (hσ : σ < 5) : b_L_trader_191 w b (nI σ) (nI o) x y = some (b, 0) := by
  unfold b_L_trader_191
  rw [if_pos (show nI σ < (5 : Int32) from (nI_ltI (a := σ) (b := 5) (by omega) (by decide)).mpr hσ)]
theorem tr_156 {w σ o : Nat} {x y : Int32} {b : AS} (hσ : σ ≤ 6) (h : σ ≤ 1 ∨ 5 ≤ σ) : b_L_trader_156 w b (nI σ) (nI o) x y = b_L_trader_191 w b (nI σ) (nI o) x y := by
  unfold b_L_trader_156
  by_cases c : σ ≤ 1
  · rw [if_pos (show nI σ ≤ (1 : Int32) from (nI_leI (a := σ) (b := 1) (by omega) (by decide)).mpr c)]
  · rw [if_neg (show ¬ nI σ ≤ (1 : Int32) from fun e => c ((nI_leI (a := σ) (b := 1) (by omega) (by decide)).mp e)), if_pos (show (5 : Int32) ≤ nI σ from (nI_leI (a := 5) (b := σ) (by decide) (by omega)).mpr (by omega))]
theorem tr_49 {w σ o x y : Nat} {b : AS} (hw : 0 < w) (hσ : σ ≤ 6) (h1 : σ ≠ 1) : b_L_trader_49 w b (nI σ) (nI o) (nI x) (nI y) = b_L_trader_123 w b (nI σ) (nI o) (nI x) (nI y) := by
  obtain ⟨m, rfl⟩ : ∃ m, w = m + 1 := ⟨w - 1, by omega⟩
  unfold b_L_trader_49
  show b_L_trader_53 _ (m + 1) b _ _ _ _ _ = _
  unfold b_L_trader_53
  by_cases c : nI x + nI y ≤ nI x
  · rw [if_pos c]
  · rw [if_neg c, if_neg (show ¬ nI σ = (1 : Int32) from Ieq (b := 1) (by omega) (by decide) h1)]
/-- the end of a request -/
theorem gEnd_id {a : AS} {σ o : Nat} (h : ¬ ((σ = 2 ∨ σ = 3 ∨ σ = 4) ∧ ¬ a 30 o ≤ nI 0)) : gEndReq a σ o = a := by
  unfold gEndReq
  rw [if_neg h]
  funext k i
  by_cases e : k = 30 ∧ i = o
  · obtain ⟨rfl, rfl⟩ := e
    rw [up2_s]
    exact Int32.sub_zero _
  · rw [up2_n _ _ e]
theorem lk_end {w σ o : Nat} {x y : Int32} {b a : AS} (h : LR Hh b a) (hσ : 2 ≤ σ ∧ σ ≤ 4) (ho : o < tn (a 0 22)) : ∃ b', b_L_trader_156 w b (nI σ) (nI o) x y = some (b', 0) ∧ LR Hh b' (gEndReq a σ o) := by
  have h10 := LR_tnO h
  obtain ⟨-, se, kn, ha, le, un, rk, ⟨⟨g1, g2, g3, g4, g5, g6⟩, r1, r2, r3, r4, r5, r6⟩, e⟩ := L6_at h.2.2.2.2.2.2.1 ho
  have kd := kd_bits g1 g2 g3 g4 g5 g6
  unfold b_L_trader_156
  rw [if_neg (show ¬ nI σ ≤ (1 : Int32) from fun e => by have := (nI_leI (a := σ) (b := 1) (by omega) (by decide)).mp e; omega), if_neg (show ¬ (5 : Int32) ≤ nI σ from fun e => by have := (nI_leI (a := 5) (b := σ) (by decide) (by omega)).mp e; omega), ixn (show o < 10 by omega) (by decide), nI_clamp (show o < 2 ^ 31 by omega), e, kd.2.2.2.2.1]
  simp only [cond_true, yl]
  by_cases c : un = 0
  · rw [if_pos (show nI un ≤ (0 : Int32) by rw [c]; decide), tr_191 (by omega), gEnd_id (fun z => z.2 (by rw [r5, c]; decide))]
    exact ⟨b, rfl, h⟩
  · rw [if_neg (show ¬ nI un ≤ (0 : Int32) from fun z => c (by have := (nI_leI (a := un) (b := 0) (by omega) (by decide)).mp z; omega)), tr_191 (by omega)]
    have hg : gEndReq a σ o = up2 a 30 o (nI (un - 1)) := by
      unfold gEndReq
      rw [if_pos ⟨by omega, by rw [r5]; exact fun z => c (by have := (nI_leI (a := un) (b := 0) (by omega) (by decide)).mp z; omega)⟩, r5, pk_sub (show 1 ≤ un by omega)]
    rw [hg]
    refine ⟨_, rfl, lr_un h ho r5 g5 (by omega) (fun C eC hC hun => ?_)⟩
    have : nI C - nI 16 = nI (C - 16) := pk_sub (by omega)
    rw [← e, eC, show (16 : Int32) = nI 16 from rfl, this]
    congr 1
    omega
theorem lk_knows {w o f t : Nat} (ho : o < 10) : ∀ (d e m : Nat) (b a : AS), e + d = f + t → d < m → LR Hh b a → f + t ≤ tn (a 0 35) → ∃ b', l_L_trader_53 w m b (nI 1) (nI o) (nI f) (nI t) (nI e) = b_L_trader_123 w b' (nI 1) (nI o) (nI f) (nI t) ∧ LR Hh b' (gKnows o d e a) := by
  intro d
  induction d with
  | zero =>
    intro e m b a h1 h2 h h3
    obtain ⟨m, rfl⟩ : ∃ m', m = m' + 1 := ⟨m - 1, by omega⟩
    have hE := (LR_E h).choose_spec
    rw [hE.1, tnI (by omega)] at h3
    refine ⟨b, ?_, h⟩
    show b_L_trader_53 _ w b _ _ _ _ _ = _
    unfold b_L_trader_53
    rw [nI_add, if_pos ((nI_leI (by omega) (by omega)).mpr (by omega))]
  | succ d ih =>
    intro e m b a h1 h2 h h3
    obtain ⟨m, rfl⟩ : ∃ m', m = m' + 1 := ⟨m - 1, by omega⟩
    obtain ⟨he, o', v, dy, sz, mp, hp, tp, kn, hb, tb, hx⟩ := LR_ex h (show e < tn (a 0 35) by omega)
    have h4 := h3
    obtain ⟨E, eE, hE⟩ := LR_E h
    rw [eE, tnI (by omega)] at h4
    have hx0 := hx
    obtain ⟨⟨⟨i1, i2, i3, i4, i5, i6, i7, i8, i9, i10⟩, x1, x2, x3, x4, x5, x6, x7, x8, x9, x10⟩, eL⟩ := hx0
    have eb := ec_bits i1 i2 i3 i4 i5 i6 i7 i8 i9 i10
    have hC := ec_lt i1 i2 i3 i4 i5 i6 i7 i8 i9 i10
    have hD := lr_dn0 (v := b 10 o + nI sz) h ho
    have hK := lr_kn hD he (e := e) (o := o') (v := v) (dy := dy) (sz := sz) (mp := mp) (hp := hp) (tp := tp) (kn := kn) (hb := hb) (tb := tb) ⟨⟨⟨i1, i2, i3, i4, i5, i6, i7, i8, i9, i10⟩, x1, x2, x3, x4, x5, x6, x7, x8, x9, x10⟩, (lgA_up b 10 o _ (by decide) e).trans eL⟩
    have eg : up2 (up2 (up2 a 27 o (b 10 o + nI sz)) 42 e (nI 1)) 41 e (up2 a 27 o (b 10 o + nI sz) 40 e) = gKnow1 a o e := by
      unfold gKnow1
      rw [(L5_t h ho).2.2.1, ← x4]
      funext k i
      rw [show up2 a 27 o (a 27 o + a 39 e) 40 e = a 40 e from rfl]
      by_cases c1 : k = 27 ∧ i = o
      · obtain ⟨rfl, rfl⟩ := c1
        rw [up2_n _ _ (by omega), up2_n _ _ (by omega), up2_s, up2_s]
      · rw [up2_n (up2 (up2 a 42 e (nI 1)) 41 e (a 40 e)) _ c1]
        by_cases c2 : k = 41 ∧ i = e
        · obtain ⟨rfl, rfl⟩ := c2
          rw [up2_s, up2_s]
        · rw [up2_n _ _ c2, up2_n _ _ c2]
          by_cases c3 : k = 42 ∧ i = e
          · obtain ⟨rfl, rfl⟩ := c3
            rw [up2_s, up2_s]
          · rw [up2_n _ _ c3, up2_n _ _ c3, up2_n _ _ c1]
    rw [eg] at hK
    obtain ⟨b', f1, f2⟩ := ih (e + 1) m _ _ (by omega) (by omega) hK (by
      show f + t ≤ tn (a 0 35)
      exact h3)
    refine ⟨b', ?_, f2⟩
    rw [← f1]
    show b_L_trader_53 (l_L_trader_53 w m) w b _ _ _ _ _ = _
    have eL2 : ∀ V, lgA (up2 b 10 o V) 13 e = nL (ecode o' v dy sz mp hp tp kn hb tb) := fun V => (lgA_up b 10 o V (by decide) e).trans eL
    have etp := ec_tp i1 i2 i3 i4 i5 i6 i7 i8 i9 i10 i5
    have ekn := ec_kn (tp := mp) i1 i2 i3 i4 i5 i6 i5 i8 i9 i10
    unfold b_L_trader_53
    rw [nI_add, if_neg (fun z => by have := (nI_leI (by omega) (by omega)).mp z; omega), if_pos (show nI 1 = (1 : Int32) from rfl)]
    simp only [ixn (show o < 20 by omega) (show 20 < 2 ^ 31 by decide), ixn (show e < 60 by omega) (show 60 < 2 ^ 31 by decide), cond_true, nI_clamp (show e < 2 ^ 31 by omega), nI_clamp (show o < 2 ^ 31 by omega), eL, f_size w _ hC, Option.bind_some, yl, eL2, eb.2.2.2.1, show (21 : Int32) = nI 21 from rfl, f_price w _ hC (show 21 < 64 by decide), eb.2.2.2.2.1, etp, ekn, show nI e + (1 : Int32) = nI (e + 1) from nI_add e 1]
