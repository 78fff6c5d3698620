/-! A message that is taken: its work. -/
variable {Hh Hg : Nat → Nat}
theorem tn_nI_le (n : Nat) : tn (nI n) ≤ n := by
  by_cases h : n < 2 ^ 31
  · rw [tnI h]; exact Nat.le_refl _
  · have := tn_lt (nI n); omega
theorem snd_bd (a : AS) (s : Nat) (kd o1 o2 o3 o4 : Int32) : tn (gSends a s kd o1 o2 o3 o4 4 s) ≤ tn (a 4 s) + 1 ∧ tn (gSends a s kd o1 o2 o3 o4 20 (1 - s)) ≤ tn (a 20 (1 - s)) + 1 := by
  have k4 : gKeep a s kd o1 o2 o3 o4 4 s = nI (tn (a 4 s) + 1) := by
    unfold gKeep
    rw [up2_n _ _ (by omega), up2_n _ _ (by omega), up2_n _ _ (by omega), up2_n _ _ (by omega), up2_n _ _ (by omega), up2_n _ _ (by omega), up2_n _ _ (by omega), up2_s]
  have k20 : gKeep a s kd o1 o2 o3 o4 20 = a 20 := gK_20 _ _ _ _ _ _ _
  unfold gSends
  split
  · rw [k4, k20]
    exact ⟨tn_nI_le _, Nat.le_succ _⟩
  · rw [gGoes_4, k4]
    refine ⟨tn_nI_le _, ?_⟩
    unfold gGoes
    rw [up2_n _ _ (by omega), up2_s, k20]
    exact tn_nI_le _
theorem rep_bd (a : AS) (σ : Int32) (o : Nat) (x y : Int32) : tn (gRep a σ o x y 4 1) ≤ tn (a 4 1) + 1 ∧ tn (gRep a σ o x y 20 0) ≤ tn (a 20 0) + 1 := snd_bd _ _ _ _ _ _ _
theorem routes_bd (a : AS) (o : Nat) : tn (gRoutes a o 4 1) ≤ tn (a 4 1) + 1 ∧ tn (gRoutes a o 20 0) ≤ tn (a 20 0) + 1 := by
  have g4 : gRouteL o 102 a 4 1 = a 4 1 := gRouteL_k _ _ _ _ _ (by decide) (by decide) (by decide) (by decide)
  have g20 : gRouteL o 102 a 20 0 = a 20 0 := gRouteL_k _ _ _ _ _ (by decide) (by decide) (by decide) (by decide)
  unfold gRoutes
  split
  · rw [g4, g20]; exact ⟨Nat.le_succ _, Nat.le_succ _⟩
  · have := rep_bd (gRouteL o 102 a) (nI 1) o (nI (tn (a 0 35))) (nI (tn ((gRouteL o 102 a) 0 35) - tn (a 0 35)))
    rw [g4, g20] at this
    exact this
theorem work_bd (a : AS) (q : Nat) : tn (gWork a q 4 1) ≤ tn (a 4 1) + 2 ∧ tn (gWork a q 20 0) ≤ tn (a 20 0) + 2 := by
  have two : ∀ (c : AS) (σ : Int32) (o : Nat) (x y : Int32), c 4 1 = a 4 1 → c 20 0 = a 20 0 → tn (gRoutes (gRep c σ o x y) o 4 1) ≤ tn (a 4 1) + 2 ∧ tn (gRoutes (gRep c σ o x y) o 20 0) ≤ tn (a 20 0) + 2 := fun c σ o x y e1 e2 => by
    have h1 := rep_bd c σ o x y
    have h2 := routes_bd (gRep c σ o x y) o
    rw [e1, e2] at h1
    omega
  have one : ∀ (c : AS) (σ : Int32) (o : Nat) (x y : Int32), c 4 1 = a 4 1 → c 20 0 = a 20 0 → tn (gRep c σ o x y 4 1) ≤ tn (a 4 1) + 2 ∧ tn (gRep c σ o x y 20 0) ≤ tn (a 20 0) + 2 := fun c σ o x y e1 e2 => by
    have h1 := rep_bd c σ o x y
    rw [e1, e2] at h1
    omega
  unfold gWork
  repeat' split
  · exact two _ _ _ _ _ (by unfold gBehind; rw [up2_n _ _ (by omega), up2_n _ _ (by omega), up2_n _ _ (by omega), up2_n _ _ (by omega), up2_n _ _ (by omega)]) (by unfold gBehind; rw [up2_n _ _ (by omega), up2_n _ _ (by omega), up2_n _ _ (by omega), up2_n _ _ (by omega), up2_n _ _ (by omega)])
  · omega
  · exact one _ _ _ _ _ rfl rfl
  · exact one _ _ _ _ _ (up2_n _ _ (by omega)) (up2_n _ _ (by omega))
  · exact two _ _ _ _ _ (by unfold gBehind; rw [up2_n _ _ (by omega), up2_n _ _ (by omega), up2_n _ _ (by omega), up2_n _ _ (by omega)]) (by unfold gBehind; rw [up2_n _ _ (by omega), up2_n _ _ (by omega), up2_n _ _ (by omega), up2_n _ _ (by omega)])
theorem takes_bd (a : AS) {s n f : Nat} (hs : s < 2) : tn (gTakes a s n f 4 s) ≤ tn (a 4 s) + 2 ∧ tn (gTakes a s n f 20 (1 - s)) ≤ tn (a 20 (1 - s)) + 2 := by
  unfold gTakes
  split
  · rw [up2_n _ _ (by omega), up2_n _ _ (by omega)]; omega
  · have e4 : ∀ i, up2 a 5 s (nI (n + 1)) 4 i = a 4 i := fun i => up2_n _ _ (by omega)
    have e20 : ∀ i, up2 a 5 s (nI (n + 1)) 20 i = a 20 i := fun i => up2_n _ _ (by omega)
    unfold gTkW
    split
    · have := snd_bd (up2 a 5 s (nI (n + 1))) s (nI 1) (nI 0) (nI 0) (nI 0) (nI 0)
      rw [e4, e20] at this
      omega
    · split
      · split
        · rw [gLearns_4, gLearns_lo _ _ 20 (by decide), e4, e20]; omega
        · rw [e4, e20]; omega
      · have s1 : s = 1 := by omega
        subst s1
        split
        · rw [e4, e20]; omega
        · have := work_bd (up2 a 5 1 (nI (n + 1))) (8192 * (1 - 1) + n)
          rw [e4, e20] at this
          exact this
theorem lr_weak {b a : AS} (h : LR Hh b a) (hg : ∀ s, s < 2 → Hh s ≤ Hg s) : LR Hg b a := by
  obtain ⟨l0, l1, l2, l3, l4, l5, l6, l7, l8⟩ := h
  exact ⟨l0, l1, l2, l3, fun s hs n hn h1 => l4 s hs n hn (Nat.le_trans (hg s hs) h1), l5, l6, l7, l8⟩
theorem lr_5 {b a : AS} {s v : Nat} (hs : s < 2) (h : LR Hh b a) : LR Hh (up2 b 1 (6 + s) (nI v)) (up2 a 5 s (nI v)) := by
  obtain ⟨l0, l1, l2, l3, l4, l5, l6, l7, l8⟩ := h
  have er : ∀ k, k ≠ 1 → up2 b 1 (6 + s) (nI v) k = b k := fun k hk => up2_k _ _ hk
  refine ⟨l0, L1_5 hs l1, fun t ht => ?_, fun t ht => ?_, fun t ht => ?_, l5, l6, l7, l8⟩
  · rw [er _ (by omega)]; exact l2 t ht
  · rw [er _ (by omega)]; exact l3 t ht
  · rw [er _ (by omega)]; exact l4 t ht
theorem LR_rgo {b a : AS} (h : LR Hh b a) {s : Nat} (hs : s < 2) : rgo a s (tn (a 4 s)) (tn (a 20 (1 - s))) := by
  obtain ⟨N, e4, hN, -⟩ := h.2.2.2.1 s hs
  obtain ⟨q, c, H, -, e19, hH, e20, hc, -⟩ := h.2.2.1 (1 - s) (by omega)
  exact ⟨by rw [e4, tnI (by omega)], ⟨H, e19, hH⟩, by rw [e20, tnI (by omega)]⟩
theorem LR_up {b a : AS} {s : Nat} (hv : sv a) (hs : s < 2) : a 0 2 = nI 0 ∨ a 0 2 = nI 1 := hv.2.1
/-- what a number's message is worth -/
theorem lk_tkW {w K O E R s n : Nat} {k21 : AS → Int32 → Int32 → Nat → Int32 → Option (AS × Int32)} {b c : AS} (h : LR Hh b c) (hw : 100 < w) (hs : s < 2) (e5 : tn (c 5 s) = n) (h1 : 1 ≤ n) (hn : n ≤ tn (c 4 (1 - s))) (hv : sv c) (hrm : rm3 c) (hM : MI K O E R c) (hK : K ≤ 1000) (hN : tn (c 4 s) + 2 ≤ 63) (hc : tn (c 20 (1 - s)) + 2 ≤ 240) (hphi : E + phi c ≤ 60) : ∃ (kd : Nat) (b' : AS), Int64.toInt32 (lgA b (5 - s) n &&& (15 : Int64)) = nI kd ∧ b_L_take_84 k21 w b (nI s) (nI 0) (6 + s) (lgA b (5 - s) n) (nI kd) (nI (n + 1)) (nI (6 + s)) 1 = b_L_take_180 k21 w b' (nI s) (6 + s) ∧ LR Hh b' (gTkW (up2 c 5 s (nI (n + 1))) s (8192 * (1 - s) + n)) ∧ tn (gTkW (up2 c 5 s (nI (n + 1))) s (8192 * (1 - s) + n) 0 35) + phi (gTkW (up2 c 5 s (nI (n + 1))) s (8192 * (1 - s) + n)) ≤ 60 := by
  obtain ⟨N', e4', hN', hall⟩ := h.2.2.2.1 (1 - s) (by omega)
  have hn63 : n ≤ N' := by rw [e4', tnI (by omega)] at hn; exact hn
  obtain ⟨kd, wg, o1, o2, o3, o4, t, m1, m2, m3, m4, m5, m6, m7, eC, k11, k12, k13, k14, k15, k16, k17, -⟩ := hall n h1 hn63
  have eC2 : lgA b (5 - s) n = nL (mcode kd wg o1 o2 o3 o4 t) := by
    rw [show 5 - s = 4 + (1 - s) by omega]
    exact eC
  obtain ⟨kd', q1, q2, q3, q4, q5⟩ := sv_kd hv (show 1 - s < 2 by omega) h1 hn
  have ekd : kd' = kd := (nI_eq (by omega) (by omega)).mp (q1.symm.trans k11)
  subst ekd
  have hn3 : n ≤ 63 := by omega
  have hL := lr_5 (v := n + 1) hs h
  have hb := MI_5 (s := s) (E' := n + 1) (by omega) (by omega) hM
  have r : ∀ k i : Nat, k ≠ 5 → up2 c 5 s (nI (n + 1)) k i = c k i := fun k i hk => up2_n _ _ (by omega)
  have hphi1 : phi (up2 c 5 s (nI (n + 1))) = phi c := rfl
  have e35 : c 0 35 = nI E := hM.1.2.2.1
  have hE : E ≤ 60 := by omega
  have h35 : tn (up2 c 5 s (nI (n + 1)) 0 35) + phi (up2 c 5 s (nI (n + 1))) ≤ 60 := by rw [r 0 _ (by decide), e35, tnI (by omega), hphi1]; exact hphi
  rw [eC2]
  refine ⟨kd', ?_⟩
  have b84 : ∀ kd0 : Nat, b_L_take_84 k21 w b (nI s) (nI 0) (6 + s) (nL (mcode kd' wg o1 o2 o3 o4 t)) (nI kd0) (nI (n + 1)) (nI (6 + s)) 1 = (if nI kd0 = (2 : Int32) then ((f_L_send w (up2 b 1 (6 + s) (nI (n + 1))) (nI s) (1 : Int32) (0 : Int32) (0 : Int32) (0 : Int32) (0 : Int32)).bind (fun v23 => b_L_take_112 k21 w v23.1 (nI s) (nI 0) (6 + s) (nL (mcode kd' wg o1 o2 o3 o4 t)) (nI kd0))) else (b_L_take_112 k21 w (up2 b 1 (6 + s) (nI (n + 1))) (nI s) (nI 0) (6 + s) (nL (mcode kd' wg o1 o2 o3 o4 t)) (nI kd0))) := fun kd0 => by
    unfold b_L_take_84
    rw [show inB 1 22 = true from by decide, ixn (show 6 + s < 22 by omega) (by decide), nI_clamp (show 6 + s < 2 ^ 31 by omega)]
    simp only [cond_true, yl]
    rw [if_pos (show nI 0 = (0 : Int32) from rfl)]
  have b112 : ∀ (x : AS) (kd0 : Nat), kd0 < 16 → kd0 ≠ 8 → kd0 ≤ 4 → b_L_take_112 k21 w x (nI s) (nI 0) (6 + s) (nL (mcode kd' wg o1 o2 o3 o4 t)) (nI kd0) = b_L_take_180 k21 w x (nI s) (6 + s) := fun x kd0 g1 g2 g3 => by
    unfold b_L_take_112
    rw [if_pos (show nI 0 = (0 : Int32) from rfl), if_neg (show ¬ nI kd0 = (8 : Int32) from Ieq (b := 8) (by omega) (by decide) g2)]
    unfold b_L_take_144
    rw [if_pos (show nI 0 = (0 : Int32) from rfl), if_pos (show nI kd0 ≤ (4 : Int32) from (nI_leI (a := kd0) (b := 4) (by omega) (by decide)).mpr g3)]
  rw [mc_kind m1 m2 m3 m4 m5 m6 m7, b84]
  unfold gTkW
  rw [r 11 _ (by decide), k11]
  by_cases c2 : kd' = 2
  · obtain ⟨b', s1, s2⟩ := lk_send (w := w) (s := s) (kd := 1) (o1 := 0) (o2 := 0) (o3 := 0) (o4 := 0) hL hs hv.2.1 (by rw [r 4 _ (by decide)]; omega) (by rw [r 20 _ (by decide)]; omega) (by decide) (by decide) (by decide) (by decide) (by decide)
    refine ⟨b', rfl, ?_, ?_, ?_⟩
    · rw [if_pos (show nI kd' = (2 : Int32) by rw [c2]; rfl), show f_L_send w (up2 b 1 (6 + s) (nI (n + 1))) (nI s) (1 : Int32) (0 : Int32) (0 : Int32) (0 : Int32) (0 : Int32) = some (b', 0) from s1, Option.bind_some]
      exact b112 b' kd' m1 (by omega) (by omega)
    · rw [if_pos (show nI kd' = nI 2 by rw [c2])]; exact s2
    · rw [if_pos (show nI kd' = nI 2 by rw [c2]), phi_snd, gSends_r _ _ _ _ _ _ _ 0 (by decide) (by decide) (by decide) (by decide) (by decide)]; exact h35
  rw [if_neg (show ¬ nI kd' = (2 : Int32) from Ieq (b := 2) (by omega) (by decide) c2), if_neg (show ¬ nI kd' = nI 2 from Ieq (b := 2) (by omega) (by decide) c2)]
  have hm := MI_mm1 hM (1 - s) n (by omega) h1 hn
  rcases (show s = 0 ∨ s = 1 by omega) with rfl | rfl
  · rw [if_pos rfl]
    by_cases c8 : kd' = 8
    · subst c8
      obtain ⟨σ, o, g1, g2, g3, g4, gF, gB, gC⟩ := hm.2.2.2 rfl k11
      obtain ⟨-, hO40, -, hE100, -⟩ := hM.1
      have es : o1 = σ := (nI_eq (by omega) (by omega)).mp (k14.symm.trans g1)
      have eo : o2 = o := (nI_eq (by omega) (by omega)).mp (k15.symm.trans g3)
      subst es eo
      obtain ⟨b', f1, f2⟩ := lk_trader (w := w) (O := O) (E := E) (R := R) (q := 8192 * (1 - 0) + n) (wg := wg) (t := t) (x := o3) (y := o4) hL hw hM.1 g2 g4 ((r 14 _ (by decide)).trans k14) ((r 15 _ (by decide)).trans k15) ((r 16 _ (by decide)).trans k16) ((r 17 _ (by decide)).trans k17) m2 m5 m6 m7 (fun c1 => by
        obtain ⟨f, u, x1, x2, x3, -⟩ := gF c1
        have y1 : o3 = f := (nI_eq (by omega) (by omega)).mp (k16.symm.trans x1)
        have y2 : o4 = u := (nI_eq (by omega) (by omega)).mp (k17.symm.trans x2)
        omega) (fun c5 => by
        rcases (show o1 = 5 ∨ o1 = 6 by omega) with c5 | c5
        · obtain ⟨e, x1, x2, -⟩ := gB c5
          have y1 : o3 = e := (nI_eq (by omega) (by omega)).mp (k16.symm.trans x1)
          omega
        · obtain ⟨e, x1, x2⟩ := gC c5
          have y1 : o3 = e := (nI_eq (by omega) (by omega)).mp (k16.symm.trans x1)
          omega)
      refine ⟨b', rfl, ?_, ?_, ?_⟩
      · unfold b_L_take_112
        rw [if_pos (show nI 0 = (0 : Int32) from rfl), if_pos (show nI 8 = (8 : Int32) from rfl), f1]
        rfl
      · rw [if_pos rfl]; exact f2
      · have tO : tn (up2 c 5 0 (nI (n + 1)) 14 (8192 * (1 - 0) + n)) < 40 ∧ tn (up2 c 5 0 (nI (n + 1)) 15 (8192 * (1 - 0) + n)) < 40 := by
          rw [r 14 _ (by decide), r 15 _ (by decide), k14, k15, tnI (by omega), tnI (by omega)]
          omega
        rw [if_pos rfl, phi_learns tO, gLearns_lo _ _ 0 (by decide)]
        exact h35
    · have k3 : kd' ≤ 3 := by have := q5 rfl; omega
      rw [if_neg (show ¬ nI kd' = nI 8 from Ieq (by omega) (by decide) c8)]
      exact ⟨_, rfl, b112 _ kd' m1 c8 (by omega), hL, h35⟩
  · rw [if_neg (show ¬ (1 : Nat) = 0 by decide)]
    by_cases c5 : kd' < 5
    · rw [if_pos ((nI_ltI (by omega) (by omega)).mpr c5)]
      exact ⟨_, rfl, b112 _ kd' m1 (by omega) (by omega), hL, h35⟩
    · have k7 : kd' ≤ 7 := q4 rfl
      obtain ⟨o, w1, w2⟩ := hm.2.2.1 rfl kd' (by omega) k7 k11
      obtain ⟨-, hO40, -, -, -⟩ := hM.1
      have eo : o1 = o := (nI_eq (by omega) (by omega)).mp (k14.symm.trans w2)
      subst eo
      have hR : R ≤ K := MI_R hM
      have hR4 : mm4 (up2 c 5 1 (nI (n + 1))) K (R + 1) := by
        have h12 := hM.2.2.2.2.2.2.2.2.2.2.2
        unfold mm4 at h12 ⊢
        rw [e5] at h12
        rw [up2_s, tnI (by omega)]
        have ek : kF (up2 c 5 1 (nI (n + 1))) 0 = kF c 0 := by
          funext i
          unfold kF
          rw [r 11 _ (by omega)]
        have el : lgN (up2 c 5 1 (nI (n + 1))) 0 = lgN c 0 := by unfold lgN; rw [r 4 _ (by omega)]
        rw [ek, el]
        have := pnd_take (p := isA) (f := kF c 0) (E := n) (E' := n + 1) (by omega) h1 (by
          unfold isA kF
          rw [show 8192 * 0 + n = 8192 * (1 - 1) + n from rfl, k11, tnI (by omega)]
          exact decide_eq_true (by omega)) (lgN c 0) hn
        omega
      have hl : lgN (up2 c 5 1 (nI (n + 1))) 0 ≤ 8190 := by
        have := rm3_lg hrm (show 0 < 2 by decide)
        unfold lgN at this ⊢
        rw [r 4 _ (by decide)]
        omega
      have hg := LR_rgo hL (show 1 < 2 by decide)
      obtain ⟨b', f1, f2, f3⟩ := lk_house (w := w) (q := 8192 * (1 - 1) + n) (wg := wg) (t := t) (kd := kd') (o1 := o1) (o2 := o2) (o3 := o3) (o4 := o4) hL hb hw (by omega) w1 ((r 11 _ (by decide)).trans k11) ((r 14 _ (by decide)).trans k14) ((r 15 _ (by decide)).trans k15) ((r 16 _ (by decide)).trans k16) ((r 17 _ (by decide)).trans k17) m2 m3 m4 m5 m6 m7 hv.2.1 hg (by rw [r 4 _ (by decide)]; exact hN) (by rw [r 20 _ (by decide)]; exact hc) hl hR4 (by omega) (by rw [hphi1]; exact hphi)
      rw [if_neg (fun e => c5 ((nI_ltI (by omega) (by omega)).mp e))]
      refine ⟨b', rfl, ?_, f2, f3⟩
      unfold b_L_take_112
      rw [if_pos (show nI 0 = (0 : Int32) from rfl), if_neg (show ¬ nI kd' = (8 : Int32) from Ieq (b := 8) (by omega) (by decide) (by omega))]
      unfold b_L_take_144
      rw [if_pos (show nI 0 = (0 : Int32) from rfl), if_neg (show ¬ nI kd' ≤ (4 : Int32) from fun e => by have := (nI_leI (a := kd') (b := 4) (by omega) (by decide)).mp e; omega), f1]
      rfl
/-- one that is taken, a message or a fill mark -/
theorem lk_takes {w K O E R s n f : Nat} {k21 : AS → Int32 → Int32 → Nat → Int32 → Option (AS × Int32)} {b c : AS} (h : LR Hh b c) (hw : 100 < w) (hs : s < 2) (e5 : tn (c 5 s) = n) (h1 : 1 ≤ n) (hn : n ≤ tn (c 4 (1 - s))) (hf : f ≤ 64) (hv : sv c) (hrm : rm3 c) (hM : MI K O E R c) (hK : K ≤ 1000) (hN : tn (c 4 s) + 2 ≤ 63) (hc : tn (c 20 (1 - s)) + 2 ≤ 240) (hphi : E + phi c ≤ 60) : ∃ b' : AS, b_L_take_46 k21 w b (nI s) (nI f) (6 + s) (nI n) (5 - s) = b_L_take_180 k21 w b' (nI s) (6 + s) ∧ LR Hh b' (gTakes c s n f) ∧ tn (gTakes c s n f 0 35) + phi (gTakes c s n f) ≤ 60 := by
  obtain ⟨N', e4', hN', hall⟩ := h.2.2.2.1 (1 - s) (by omega)
  have hn63 : n ≤ 63 := by rw [e4', tnI (by omega)] at hn; omega
  have hl : lnB (5 - s) 64 = true := by rcases (show s = 0 ∨ s = 1 by omega) with rfl | rfl <;> decide
  have e6 : (6 : Int32) + nI s = nI (6 + s) := nI_add 6 s
  have en : nI n + (1 : Int32) = nI (n + 1) := nI_add n 1
  unfold b_L_take_46 gTakes
  rw [hl, ixn (show n < 64 by omega) (by decide), nI_clamp (show n < 2 ^ 31 by omega)]
  simp only [cond_true, yl, e6, en]
  by_cases c0 : f = 0
  · subst c0
    obtain ⟨kd, b', g1, g2, g3, g4⟩ := lk_tkW (k21 := k21) h hw hs e5 h1 hn hv hrm hM hK hN hc hphi
    rw [if_pos ((nI_leI (by omega) (by omega)).mpr (by omega)), g1, g2, if_neg (by decide)]
    exact ⟨b', rfl, g3, g4⟩
  · rw [if_pos (show 0 < f by omega)]
    have r : ∀ v, tn (up2 c 5 s v 0 35) + phi (up2 c 5 s v) ≤ 60 := fun v => by
      rw [show up2 c 5 s v 0 35 = nI E from hM.1.2.2.1, tnI (by have := hM.1.2.2.2.1; omega)]
      exact hphi
    have tail : ∀ (kd : Int32) (C : Int64) (v : Nat), b_L_take_84 k21 w b (nI s) (nI f) (6 + s) C kd (nI v) (nI (6 + s)) 1 = b_L_take_180 k21 w (up2 b 1 (6 + s) (nI v)) (nI s) (6 + s) := fun kd C v => by
      have n0 : ¬ nI f = (0 : Int32) := Ieq (b := 0) (by omega) (by decide) c0
      unfold b_L_take_84
      rw [show inB 1 22 = true from by decide, ixn (show 6 + s < 22 by omega) (by decide), nI_clamp (show 6 + s < 2 ^ 31 by omega)]
      simp only [cond_true, yl]
      rw [if_neg n0]
      unfold b_L_take_112
      rw [if_neg n0]
      unfold b_L_take_144
      rw [if_neg n0]
    by_cases c1 : f ≤ n + 1
    · rw [if_pos ((nI_leI (by omega) (by omega)).mpr c1), if_pos c1, tail]
      exact ⟨_, rfl, lr_5 hs h, r _⟩
    · rw [if_neg (fun e => c1 ((nI_leI (by omega) (by omega)).mp e)), if_neg c1, tail]
      exact ⟨_, rfl, lr_5 hs h, r _⟩
