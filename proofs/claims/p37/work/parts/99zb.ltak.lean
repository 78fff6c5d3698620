/-! take -/
variable {Hh Hg : Nat → Nat}
theorem hd1_bd {a : AS} {s : Nat} (hs : s < 2) : tn (gHd1 a s 4 s) ≤ tn (a 4 s) + 2 ∧ tn (gHd1 a s 20 (1 - s)) ≤ tn (a 20 (1 - s)) + 2 ∧ gHd1 a s 4 (1 - s) = gTakes (gHd0 a s) s (tn (a 5 s)) (hdF a s) 4 (1 - s) := by
  have := takes_bd (gHd0 a s) (n := tn (a 5 s)) (f := hdF a s) hs
  rw [hd0_r a s 4 (by decide) (by decide), hd0_r a s 20 (by decide) (by decide)] at this
  unfold gHd1
  rw [gThrow_r _ _ 4 (by decide) (by decide), gThrow_r _ _ 20 (by decide) (by decide)]
  exact ⟨this.1, this.2, rfl⟩
theorem lk_heldL {w K O s : Nat} {n : Nat → Nat} {l0 l1 : Nat} {a0 : AS} (hn : sm8 n ≤ 512) (hO : n 4 ≤ 40) (hs : s < 2) (hK : K ≤ 1000) (hw : 100 < w) : ∀ (m k : Nat) (b a : AS), LR Hh b a → (∀ t, t < 2 → Hh t = 0) → PL n l0 l1 K O s a0 a → tn (a 0 35) + phi a ≤ 60 → tn (a 4 s) + 2 * (tn (a0 4 (1 - s)) + 1 - tn (a 5 s)) ≤ 61 → tn (a 20 (1 - s)) + 2 * (tn (a0 4 (1 - s)) + 1 - tn (a 5 s)) ≤ 238 → 1 ≤ m → 65 ≤ m + tn (a 5 s) → 1 ≤ k → 65 ≤ k + tn (a 5 s) → ∃ b', b_L_take_214 (l_L_take_21 w m) w b (nI s) (6 + s) = some (b', 0) ∧ LR Hh b' (gHdL s k a) ∧ tn (gHdL s k a 0 35) + phi (gHdL s k a) ≤ 60 ∧ tn (gHdL s k a 4 s) ≤ 61 ∧ tn (gHdL s k a 20 (1 - s)) ≤ 238 ∧ PL n l0 l1 K O s a0 (gHdL s k a) ∧ tn (a 5 s) ≤ tn (gHdL s k a 5 s) := by
  intro m
  induction m with
  | zero => intro k b a _ _ _ _ _ _ h; omega
  | succ m ih =>
    intro k b a h hz hP hphi h4 h20 hm1 hm hk1 hk
    obtain ⟨k, rfl⟩ : ∃ k', k = k' + 1 := ⟨k - 1, by omega⟩
    obtain ⟨hd, hm'⟩ := id hP
    have hv := hd.1.1
    obtain ⟨v, ev, hv1, hv2, eh, h8⟩ := hN_v hv hs
    obtain ⟨-, ⟨E5, e5, hE5⟩, -⟩ := hv.2.2 s hs
    have eE : tn (a 5 s) = E5 := by rw [e5, tnI (by omega)]
    rw [eE] at ev eh h4 h20 hm hk
    obtain ⟨v', ev', -, hv66, hlow, hhigh⟩ := h.2.2.2.2.1 s hs E5 (by omega) (by rw [hz s hs]; omega)
    have evv : v' = v := (nI_eq (by omega) (by omega)).mp (ev'.symm.trans ev)
    subst evv
    have e6 : (6 : Int32) + nI s = nI (6 + s) := nI_add 6 s
    have i22 : ixB (nI (6 + s)) 22 = true := ixn (by omega) (by decide)
    have c6 : (nI (6 + s)).toNatClampNeg = 6 + s := nI_clamp (by omega)
    have in6 : inB (6 + s) 64 = true := by rcases (show s = 0 ∨ s = 1 by omega) with rfl | rfl <;> decide
    have hb5 : b 1 (6 + s) = nI E5 := (LR_5 h hs).trans e5
    have stop : b_L_take_243 (l_L_take_21 w (m + 1)) w b (nI s) (6 + s) = some (b, 0) := by
      unfold b_L_take_243 b_L_take_244
      rw [if_pos rfl]
      show l_L_take_21 w (m + 1) b (nI s) 0 (6 + s) 0 = _
      show b_L_take_21 _ w b _ _ _ _ = _
      unfold b_L_take_21
      rw [if_pos rfl]
    have hend : b_L_take_214 (l_L_take_21 w (m + 1)) w b (nI s) (6 + s) = some (b, 0) → v' = 0 → ∃ b', b_L_take_214 (l_L_take_21 w (m + 1)) w b (nI s) (6 + s) = some (b', 0) ∧ LR Hh b' (gHdL s (k + 1) a) ∧ tn (gHdL s (k + 1) a 0 35) + phi (gHdL s (k + 1) a) ≤ 60 ∧ tn (gHdL s (k + 1) a 4 s) ≤ 61 ∧ tn (gHdL s (k + 1) a 20 (1 - s)) ≤ 238 ∧ PL n l0 l1 K O s a0 (gHdL s (k + 1) a) ∧ tn (a 5 s) ≤ tn (gHdL s (k + 1) a 5 s) := fun g1 g2 => by
      have e : gHdL s (k + 1) a = a := by
        show (if _ then _ else _) = _
        rw [if_pos (by rw [eE, ev, g2]; decide)]
      rw [e]
      exact ⟨b, g1, h, hphi, by omega, by omega, hP, Nat.le_refl _⟩
    by_cases c64 : 64 ≤ E5
    · refine hend ?_ (hhigh c64)
      unfold b_L_take_214
      rw [e6, i22, c6, hb5]
      simp only [cond_true]
      rw [if_pos (show (64 : Int32) ≤ nI E5 from (nI_leI (a := 64) (b := E5) (by decide) (by omega)).mpr c64)]
      exact stop
    have hslot := hlow (by omega)
    by_cases c0 : v' = 0
    · refine hend ?_ c0
      unfold b_L_take_214
      rw [e6, i22, c6, hb5]
      simp only [cond_true]
      rw [if_neg (show ¬ (64 : Int32) ≤ nI E5 from fun e => c64 ((nI_leI (a := 64) (b := E5) (by decide) (by omega)).mp e)), in6, ixn (show E5 < 64 by omega) (by decide), nI_clamp (show E5 < 2 ^ 31 by omega), hslot, c0]
      simp only [cond_true]
      rw [if_pos (show nI (if 0 ≤ 1 then 0 else 0 - 1) ≤ (0 : Int32) from by decide)]
      exact stop
    have hh : hN a s (tn (a 5 s)) ≠ 0 := by rw [eE, eh]; exact c0
    have hle : ¬ a 18 (8192 * s + tn (a 5 s)) ≤ nI 0 := fun e => hh ((hdP_0 hs hd).mp e)
    obtain ⟨f1, f2, f3, f4⟩ := hdP_f hs hd hh
    rw [eE] at f1 f2
    have hP1 := PL_1 hn hO hs hP hle
    obtain ⟨-, hgt⟩ := hdP_1 hn hO hs hh (fun e => MM_wrk hs hd hm' e) hd
    rw [eE] at hgt
    have hrm := SI_rm hn hO hd.1
    have hoth := hm'.2.1
    have e4o : tn (a 4 (1 - s)) = tn (a0 4 (1 - s)) := by rw [hoth.2.1 4 (by omega)]
    have hS : E5 ≤ tn (a0 4 (1 - s)) := by rw [← e4o]; exact f2
    obtain ⟨bd1, bd2, -⟩ := hd1_bd (a := a) hs
    obtain ⟨⟨E, R, mi⟩, -, -⟩ := hm'
    have e35 : tn (a 0 35) = E := (MI_O mi).2.1
    have r : ∀ k, k ≠ 6 → k ≠ 18 → gHd0 a s k = a k := fun k w1 w2 => hd0_r a s k w1 w2
    have hfv : hdF a s = if v' = 1 then 0 else v' - 2 := by
      unfold hdF
      rw [eE, ev]
      by_cases c : v' = 1
      · rw [if_pos c, if_pos (by rw [c])]
      · rw [if_neg c, if_neg (fun hh => c ((nI_eq (by omega) (by decide)).mp hh)), tnI (by omega)]
    have hLR0 : LR (fun t => if t = s then E5 + 1 else 0) b (gHd0 a s) := lr_g18 (lr_weak h (fun t ht => by rw [hz t ht]; omega)) r (fun t i ht hi hle => by
      unfold gHd0
      rw [up2_n _ _ (by omega), up2_n _ _ (by
        rw [eE]
        intro hc
        by_cases ct : t = s
        · subst ct; rw [if_pos rfl] at hle; omega
        · omega)])
    have hphi0 : phi (gHd0 a s) = phi a := by
      unfold phi hasQ hasL lft
      rw [r 34 (by decide) (by decide), r 24 (by decide) (by decide), r 26 (by decide) (by decide), r 27 (by decide) (by decide), r 28 (by decide) (by decide)]
    obtain ⟨b', g1, g2, g3⟩ := lk_iter (Hh := Hh) (w := w) (n := E5) (f := hdF a s) (k21 := l_L_take_21 w m) hLR0 (fun t ht => Nat.le_refl _) hw hs (by rw [r 5 (by decide) (by decide)]; exact e5) f1 (by rw [r 4 (by decide) (by decide)]; exact f2) (by rw [hfv]; split <;> omega) (sv_hd0 hv) (rm3_of (r 4 (by decide) (by decide)) hrm) (MI_hd0 mi) hK (by rw [r 4 (by decide) (by decide)]; omega) (by rw [r 20 (by decide) (by decide)]; omega) (by rw [hphi0]; omega)
    have eH : gThrow (gTakes (gHd0 a s) s E5 (hdF a s)) s = gHd1 a s := by unfold gHd1; rw [eE]
    rw [eH] at g2 g3
    obtain ⟨b2, i1, i2⟩ := ih k b' (gHd1 a s) g2 hz hP1 g3 (by omega) (by omega) (by omega) (by omega) (by omega) (by omega)
    refine ⟨b2, ?_, ?_⟩
    · rw [← i1, ← g1]
      unfold b_L_take_214
      rw [e6, i22, c6, hb5]
      simp only [cond_true]
      rw [if_neg (show ¬ (64 : Int32) ≤ nI E5 from fun e => c64 ((nI_leI (a := 64) (b := E5) (by decide) (by omega)).mp e)), in6, ixn (show E5 < 64 by omega) (by decide), nI_clamp (show E5 < 2 ^ 31 by omega), hslot]
      simp only [cond_true]
      have hpos : ¬ nI (if v' ≤ 1 then v' else v' - 1) ≤ (0 : Int32) := fun e => by
        have := (nI_leI (a := if v' ≤ 1 then v' else v' - 1) (b := 0) (by split <;> omega) (by decide)).mp e
        split at this <;> omega
      rw [if_neg hpos]
      unfold b_L_take_244
      rw [if_neg (show ¬ (1 : Int32) = 0 by decide), e6, i22, c6, in6, hb5, ixn (show E5 < 64 by omega) (by decide), nI_clamp (show E5 < 2 ^ 31 by omega), hslot]
      simp only [cond_true]
      have hfe : nI (if v' ≤ 1 then v' else v' - 1) - (1 : Int32) = nI (hdF a s) := by
        rw [hfv, show (1 : Int32) = nI 1 from rfl, pk_sub (by split <;> omega)]
        congr 1
        split <;> split <;> omega
      unfold b_L_take_267
      rw [hfe]
      rfl
    · have e : gHdL s (k + 1) a = gHdL s k (gHd1 a s) := by
        show (if _ then _ else _) = _
        rw [if_neg hle]
      rw [e]
      obtain ⟨j1, j2, j3, j4, j5, j6⟩ := i2
      exact ⟨j1, j2, j3, j4, j5, by rw [eE]; omega⟩
/-- take: on both sides -/
theorem lk_take {w K O s c : Nat} {n : Nat → Nat} {l0 l1 : Nat} {a0 B b : AS} (hn : sm8 n ≤ 512) (hO : n 4 ≤ 40) (hs : s < 2) (hK : K ≤ 1000) (hw : 100 < w) (h : LR Hh b B) (hz : ∀ t, t < 2 → Hh t = 0) (hS : SIp n (1 + s) 0 l0 l1 B s c 0) (hm : ∃ E R : Nat, MI K O E R B) (ho : oth a0 B s) (h10 : tn (B 10 s) = tn (B 0 1)) (hc : cEn c = tn (B 5 s)) (hf : cEf c ≤ 64) (hphi : tn (B 0 35) + phi B ≤ 60) (h4 : tn (B 4 s) + 2 * tn (a0 4 (1 - s)) ≤ 61) (h20 : tn (B 20 (1 - s)) + 2 * tn (a0 4 (1 - s)) ≤ 238) : ∃ b', f_L_take w b (nI s) (nI (cEf c)) = some (b', 0) ∧ LR Hh b' (gHeld (gTakes B s (cEn c) (cEf c)) s) ∧ tn (gHeld (gTakes B s (cEn c) (cEf c)) s 0 35) + phi (gHeld (gTakes B s (cEn c) (cEf c)) s) ≤ 60 ∧ cEn c < tn (gHeld (gTakes B s (cEn c) (cEf c)) s 5 s) ∧ PL n l0 l1 K O s a0 (gHeld (gTakes B s (cEn c) (cEf c)) s) := by
  obtain ⟨m, rfl⟩ : ∃ m, w = m + 1 := ⟨w - 1, by omega⟩
  obtain ⟨hP, hwk⟩ := PL_0 (a0 := a0) hn hO hs hS hm ho h10 hc
  obtain ⟨E, R, mi⟩ := hm
  obtain ⟨x1, x2, x3, x4, x5⟩ := SIp_n hS
  have hv := hS.1
  have hrm := SIp_rm hn hO hS
  have e35 : tn (B 0 35) = E := (MI_O mi).2.1
  have e4o : tn (B 4 (1 - s)) = tn (a0 4 (1 - s)) := by rw [ho.2.1 4 (by omega)]
  obtain ⟨-, ⟨E5, e5, hE5⟩, -⟩ := hv.2.2 s hs
  have eE : tn (B 5 s) = E5 := by rw [e5, tnI (by omega)]
  have x3' : cEn c ≤ tn (a0 4 (1 - s)) := by rw [← e4o]; exact x3
  obtain ⟨b1, g1, g2, g3⟩ := lk_iter (Hh := Hh) (w := m + 1) (n := cEn c) (f := cEf c) (k21 := l_L_take_21 (m + 1) m) h (fun t ht => by rw [hz t ht]; omega) hw hs (by rw [e5, hc, eE]) x2 x3 hf hv hrm mi hK (by omega) (by omega) (by omega)
  have bd := takes_bd B (s := s) (n := cEn c) (f := cEf c) hs
  have t5 : tn (gThrow (gTakes B s (cEn c) (cEf c)) s 5 s) = nxE (cEn c) (cEf c) := by
    rw [gThrow_r _ _ 5 (by decide) (by decide), nx_5]
    exact tnI (by have := nx_gt (cEn c) (cEf c); omega)
  have ngt := nx_gt (cEn c) (cEf c)
  obtain ⟨b2, i1, i2, i3, i4, i5, i6, i7⟩ := lk_heldL (Hh := Hh) (w := m + 1) hn hO hs hK hw m 8193 b1 (gThrow (gTakes B s (cEn c) (cEf c)) s) g2 hz hP g3 (by rw [gThrow_r _ _ 4 (by decide) (by decide), t5]; omega) (by rw [gThrow_r _ _ 20 (by decide) (by decide), t5]; omega) (by omega) (by omega) (by decide) (by omega)
  refine ⟨b2, ?_, i2, i3, ?_, i6⟩
  · rw [← i1, ← g1]
    unfold f_L_take
    rcases (show s = 0 ∨ s = 1 by omega) with rfl | rfl
    · rw [if_pos (show nI 0 = (0 : Int32) from rfl)]
      rfl
    · rw [if_neg (show ¬ nI 1 = (0 : Int32) by decide)]
      rfl
  · rw [t5] at i7
    show cEn c < tn (gHdL s 8193 (gThrow (gTakes B s (cEn c) (cEf c)) s) 5 s)
    omega
