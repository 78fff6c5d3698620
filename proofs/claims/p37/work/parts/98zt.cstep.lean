/-! A step of coming. -/
/-- what coming keeps between two that come; a0: the state ahead of the call -/
def CI (n : Nat → Nat) (l0 l1 K O s : Nat) (a0 a : AS) : Prop := SI n (1 + s) 0 l0 l1 a ∧ (∀ i, i ≤ tn (a 5 s) → hN a s i = 0) ∧ (∃ E R : Nat, MI K O E R a) ∧ oth a0 a s ∧ ((∀ k, k = 3 ∨ k = 9 ∨ k = 10 → a k s = a0 k s) ∨ tn (a 10 s) = tn (a 0 1))
def PL (n : Nat → Nat) (l0 l1 K O s : Nat) (a0 a : AS) : Prop := hdP n l0 l1 s a ∧ MM K O s a0 a
theorem PL_1 {n : Nat → Nat} {l0 l1 K O s : Nat} {a0 a : AS} (hn : sm8 n ≤ 512) (hO : n 4 ≤ 40) (hs : s < 2) (h : PL n l0 l1 K O s a0 a) (hh : ¬ a 18 (8192 * s + tn (a 5 s)) ≤ nI 0) : PL n l0 l1 K O s a0 (gHd1 a s) := by
  obtain ⟨h1, h2⟩ := h
  have hne : hN a s (tn (a 5 s)) ≠ 0 := fun e => hh ((hdP_0 hs h1).mpr e)
  exact ⟨(hdP_1 hn hO hs hne (fun e => MM_wrk hs h1 h2 e) h1).1, MM_1 hn hO hs h1 h2 hne⟩
theorem ask_r (a : AS) (s k : Nat) (h : k ≠ 4) (h1 : k < 7 ∨ 17 < k ∨ k = 10) (h2 : k ≠ 21) (h3 : k ≠ 20) : gAsk a s k = a k := by
  unfold gAsk
  split
  · rfl
  · rw [gSends_r _ _ _ _ _ _ _ k h (by omega) h2 h3 (by omega), up7_r _ _ _ _ k (by omega) (by omega)]
/-- the state ahead of the number -/
theorem cm_b {n : Nat → Nat} {l0 l1 K O s : Nat} {a0 a : AS} (hn : sm8 n ≤ 512) (hO : n 4 ≤ 40) (hs : s < 2) (h1 : 1 ≤ tn (a 20 s)) (hin : isIn a s) (h : CI n l0 l1 K O s a0 a) : ∃ b : AS, gCmB (gPop a s) s (cEn (wyE a s)) (cEf (wyE a s)) = b ∧ SIp n (1 + s) 0 l0 l1 b s (wyE a s) 0 ∧ (∃ E R : Nat, MI K O E R b) ∧ (∀ i, i ≤ tn (b 5 s) → hN b s i = 0) ∧ oth a0 b s ∧ tn (b 10 s) = tn (b 0 1) ∧ b 5 = a 5 ∧ b 4 = a 4 ∧ b 18 = a 18 ∧ b 11 = a 11 := by
  obtain ⟨hS, hr, ⟨E, R, m⟩, ho, hq⟩ := h
  obtain ⟨c1, c2, c3, c4⟩ := cm_in hn hO hs h1 hin hS m
  have r : ∀ k, k = 4 ∨ k = 5 ∨ k = 11 ∨ k = 18 → gCmB (gPop a s) s (cEn (wyE a s)) (cEf (wyE a s)) k = a k := fun k hk => by
    rw [cmB_r _ _ _ _ k (by omega) (by omega) (by omega) (by omega) (by omega) (by omega) (by omega), gPop_r _ _ k (by omega) (by omega)]
  refine ⟨_, rfl, c1, ⟨E, R, c2⟩, fun i hi => ?_, oth_trans ho (oth_trans oth_pop (oth_cmB hs)), c1.2.2.1, r 5 (by omega), r 4 (by omega), r 18 (by omega), r 11 (by omega)⟩
  rw [r 5 (by omega)] at hi
  unfold hN
  rw [r 18 (by omega)]
  exact hr i hi
/-- the turn begins -/
theorem PL_0 {n : Nat → Nat} {l0 l1 K O s c : Nat} {a0 b : AS} (hn : sm8 n ≤ 512) (hO : n 4 ≤ 40) (hs : s < 2) (hS : SIp n (1 + s) 0 l0 l1 b s c 0) (hm : ∃ E R : Nat, MI K O E R b) (ho : oth a0 b s) (h10 : tn (b 10 s) = tn (b 0 1)) (hc : cEn c = tn (b 5 s)) : PL n l0 l1 K O s a0 (gThrow (gTakes b s (cEn c) (cEf c)) s) ∧ (cEf c = 0 → wrk b s (cEn c)) := by
  obtain ⟨E, R, m⟩ := hm
  obtain ⟨f1, f2, f3, f4, f5⟩ := SIp_n hS
  have hv8 : cEf c ≤ 8191 := by unfold cEf; omega
  have hw : cEf c = 0 → wrk b s (cEn c) := fun _ => MI_wrk hs f2 f3 hS.1 m
  have hx8 := (SIp_take hs hc hS).2.2
  obtain ⟨E', R', t⟩ := MI_takes (n := cEn c) (f := cEf c) hs hc.symm f2 f3 hv8 hS.1 (SIp_rm hn hO hS) m
  refine ⟨⟨SIp_hdP hn hO hs hc hw hS, ⟨E', R', MI_thr t⟩, oth_trans ho (oth_trans (oth_takes hs) (oth_thr hs (by rw [gTakes_5, tnI (by omega)]; exact hx8))), ?_⟩, hw⟩
  rw [gThrow_r _ _ 10 (by decide) (by decide), gThrow_r _ _ 0 (by decide) (by decide), gTakes_l _ _ _ _ 10 s (by unfold lin; omega) (by decide), gTakes_l _ _ _ _ 0 1 (by unfold lin; omega) (by decide)]
  exact h10
theorem CI_C {n : Nat → Nat} {l0 l1 K O s c : Nat} {a0 b : AS} (hn : sm8 n ≤ 512) (hO : n 4 ≤ 40) (hs : s < 2) (hS : SIp n (1 + s) 0 l0 l1 b s c 0) (hm : ∃ E R : Nat, MI K O E R b) (hr : ∀ i, i ≤ tn (b 5 s) → hN b s i = 0) (ho : oth a0 b s) (h10 : tn (b 10 s) = tn (b 0 1)) : CI n l0 l1 K O s a0 (gCmC b s (cEn c) (cEf c)) := by
  have hz := hr (tn (b 5 s)) (Nat.le_refl _)
  obtain ⟨f1, f2, f3, f4, f5⟩ := SIp_n hS
  have hl := rm3_lg (SIp_rm hn hO hS) (show 1 - s < 2 by omega)
  unfold gCmC
  by_cases c1 : tn (b 5 s) < cEn c
  · rw [if_pos c1]
    obtain ⟨E, R, m⟩ := hm
    have g1 := SIp_asks hs rfl hn hO c1 hz hS
    have g2 := (SIp_hold hs c1 hz hS).1
    have r5 : gAsk (gHold b s (cEn c) (cEf c)) s 5 = b 5 := by rw [ask_r _ _ 5 (by omega) (by omega) (by omega) (by omega), gHold_r _ _ _ _ 5 (by omega) (by omega)]
    refine ⟨g1, fun i hi => ?_, ⟨E, R, MI_ask hs (SI_rm hn hO g2) g2.1 (MI_hold m)⟩, oth_trans ho (oth_trans (oth_hold hs (by omega)) (oth_ask hs)), Or.inr ?_⟩
    · rw [r5] at hi
      have h0 := hr i hi
      unfold hN at h0 ⊢
      rw [ask_r _ _ 18 (by omega) (by omega) (by omega) (by omega), hold_18, if_neg (show ¬ (8192 * s + i = 8192 * s + cEn c) by omega)]
      exact h0
    · rw [ask_r _ _ 10 (by omega) (by omega) (by omega) (by omega), ask_r _ _ 0 (by omega) (by omega) (by omega) (by omega), gHold_r _ _ _ _ 10 (by omega) (by omega), gHold_r _ _ _ _ 0 (by omega) (by omega)]
      exact h10
  rw [if_neg c1]
  by_cases c2 : cEn c = tn (b 5 s)
  · rw [if_pos c2]
    obtain ⟨⟨q1, q2⟩, q3⟩ := PL_0 hn hO hs hS hm ho h10 c2
    have hM : ∀ a, hdP n l0 l1 s a → MM K O s a0 a → hN a s (tn (a 5 s)) ≠ 0 → MM K O s a0 (gHd1 a s) := fun a h m hh => MM_1 hn hO hs h m hh
    have hMw : ∀ a, hdP n l0 l1 s a → MM K O s a0 a → hN a s (tn (a 5 s)) = 1 → wrk a s (tn (a 5 s)) := fun a h m hh => MM_wrk hs h m hh
    obtain ⟨t1, t2⟩ := SIp_held (M := MM K O s a0) hn hO hs hM hMw c2 q3 q2 hS
    exact ⟨t1.1, hdP_E (M := MM K O s a0) hn hO hs hM hMw 8193 _ q1 q2 (by omega), t2.1, t2.2.1, Or.inr t2.2.2⟩
  · rw [if_neg c2]
    exact ⟨SIp_old hs (by omega) hS, hr, hm, ho, Or.inr h10⟩
theorem CI_step {n : Nat → Nat} {l0 l1 K O s : Nat} {a0 a : AS} (hn : sm8 n ≤ 512) (hO : n 4 ≤ 40) (hs : s < 2) (h1 : 1 ≤ tn (a 20 s)) (h : CI n l0 l1 K O s a0 a) : CI n l0 l1 K O s a0 (gCome1 a s) := by
  by_cases hin : isIn a s
  · have e : gCome1 a s = gCmC (gCmB (gPop a s) s (cEn (wyE a s)) (cEf (wyE a s))) s (cEn (wyE a s)) (cEf (wyE a s)) := if_pos hin
    rw [e]
    obtain ⟨b, eb, b1, b2, b3, b4, b5, -⟩ := cm_b hn hO hs h1 hin h
    rw [eb]
    exact CI_C hn hO hs b1 b2 b3 b4 b5
  · have e : gCome1 a s = gPop a s := if_neg hin
    rw [e]
    obtain ⟨hS, hr, ⟨E, R, m⟩, ho, hq⟩ := h
    refine ⟨SI_lost hs h1 hin hS, fun i hi => ?_, ⟨E, R, MI_pop m⟩, oth_trans ho oth_pop, ?_⟩
    · rw [gPop_r _ _ 5 (by omega) (by omega)] at hi
      unfold hN
      rw [gPop_r _ _ 18 (by omega) (by omega)]
      exact hr i hi
    · rcases hq with hq | hq
      · exact Or.inl (fun k hk => by rw [gPop_r _ _ k (by omega) (by omega)]; exact hq k hk)
      · refine Or.inr ?_
        rw [gPop_r _ _ 10 (by omega) (by omega), gPop_r _ _ 0 (by omega) (by omega)]
        exact hq
/-- the reference's step goes through -/
theorem CI_comes {w : Nat} {n : Nat → Nat} {l0 l1 K O s : Nat} {a0 a : AS} (hn : sm8 n ≤ 512) (hO : n 4 ≤ 40) (hs : s < 2) (hw : 8192 < w) (h1 : 1 ≤ tn (a 20 s)) (hin : isIn a s) (h : CI n l0 l1 K O s a0 a) : f_X9_comes w (gPop a s) (nI s) (nI (cEn (wyE a s))) (nI (cEf (wyE a s))) = some (gComes (gPop a s) s (cEn (wyE a s)) (cEf (wyE a s)), 0) := by
  obtain ⟨b, eb, b1, b2, b3, b4, b5, b6, b7, -⟩ := cm_b hn hO hs h1 hin h
  obtain ⟨hS, hr, ⟨E, R, m⟩, ho, hq⟩ := h
  obtain ⟨-, -, -, c4⟩ := cm_in hn hO hs h1 hin hS m
  refine r_comes hs hw c4 ?_ (PL n l0 l1 K O s a0) (fun a ha => MM_hd hn hO hs ha.1 ha.2) (fun a ha hh => PL_1 hn hO hs ha hh) (fun hc => ?_)
  · rw [eb]
    obtain ⟨-, ⟨E5, e5, hE5⟩, -⟩ := b1.1.2.2 s hs
    have eE : tn (b 5 s) = E5 := by rw [e5, tnI (by omega)]
    obtain ⟨S, e4, hS4⟩ := SIp_rm hn hO b1 s hs
    obtain ⟨-, -, -, -, h19, ⟨k, e20, hk⟩, -⟩ := b1.1.2.2 (1 - s) (by omega)
    refine ⟨E5, S, k, e5, hE5, ⟨e4, h19, e20⟩, by omega, by omega, fun hc => ?_⟩
    obtain ⟨f1, f2, f3, f4, f5⟩ := SIp_n b1
    obtain ⟨E', R', m'⟩ := b2
    exact ⟨MI_tk hs f2 f3 (by unfold cEf; omega) b1.1 (SIp_rm hn hO b1) m', _, gTakes_5, (SIp_take hs (by omega) b1).2.2⟩
  · rw [eb] at hc ⊢
    exact (PL_0 hn hO hs b1 b2 b4 b5 hc).1
/-- what the class's step wants -/
theorem CI_co {n : Nat → Nat} {l0 l1 K O s S : Nat} {a0 a : AS} (hn : sm8 n ≤ 512) (hO : n 4 ≤ 40) (hs : s < 2) (hK : K ≤ 1000) (h1 : 1 ≤ tn (a 20 s)) (hS0 : a0 4 (1 - s) = nI S) (hS2 : S < 2 ^ 30) (h : CI n l0 l1 K O s a0 a) : coOk a s S (PL n l0 l1 K O s a0) := by
  obtain ⟨w1, w2, w3⟩ := SI_wy hs h1 h.1
  have e4 : a 4 (1 - s) = nI S := (h.2.2.2.1.2.1 4 (by omega)).trans hS0
  have hl : lgN a (1 - s) = S := by unfold lgN; rw [e4, tnI (by omega)]
  refine ⟨h1, w2, by rw [← hl]; exact w3, e4, fun hin => ?_⟩
  obtain ⟨b, eb, b1, b2, b3, b4, b5, b6, b7, b8, b9⟩ := cm_b hn hO hs h1 hin h
  obtain ⟨hS, hr, ⟨E, R, m⟩, ho, hq⟩ := h
  obtain ⟨-, -, c3, -⟩ := cm_in hn hO hs h1 hin hS m
  obtain ⟨-, ⟨E5, e5, hE5⟩, -, -, -, -, -, -, -, -, v11⟩ := hS.1.2.2 s hs
  have eE : tn (a 5 s) = E5 := by rw [e5, tnI (by omega)]
  have eE' : tn (b 5 s) = E5 := by rw [b6]; exact eE
  obtain ⟨f1, f2, f3, f4, f5⟩ := SIp_n b1
  obtain ⟨kd, k1, k2, k3, k4, k5⟩ := sv_kd hS.1 (show 1 - s < 2 by omega) w2 w3
  refine ⟨E5, e5, by omega, hE5, fun _ => ⟨kd, k1, k2, k3⟩, c3, fun hc => ?_, fun hc => ⟨fun i hi => ?_, fun hf => ?_, ?_⟩⟩
  · show roomS (gCmB (gPop a s) s (cEn (wyE a s)) (cEf (wyE a s))) s 1
    rw [eb]
    have hc' : tn (b 5 s) < cEn (wyE a s) := by rw [eE']; exact hc
    have g2 := (SIp_hold hs hc' (b3 _ (Nat.le_refl _)) b1).1
    obtain ⟨x, y, x1, x2, x3, x4⟩ := SI_roomS (k := 1) g2 hn hO hs (by omega)
    rw [gHold_r _ _ _ _ 4 (by omega) (by omega)] at x1
    rw [gHold_r _ _ _ _ 20 (by omega) (by omega)] at x3
    exact ⟨x, y, x1, x2, x3, x4⟩
  · have h0 := hr i (by omega)
    obtain ⟨x, ex, hx1, hx2⟩ := v11 i (by omega)
    unfold hN at h0
    rw [if_pos (by omega), ex, tnI (by omega)] at h0
    rw [ex, h0]
  · have hf' : cEf (wyE a s) = 0 := hf
    have hc' : cEn (wyE a s) = E5 := hc
    rw [← hc']
    have ebb : gCmB (gPop a s) s (cEn (wyE a s)) 0 = b := by
      rw [hf'] at eb
      exact eb
    rw [ebb]
    have g := (SIp_take hs (by rw [eE']; exact hc') b1).1
    have g8 := (SIp_take hs (by rw [eE']; exact hc') b1).2.2
    rw [cNx_0 hf'] at g g8
    obtain ⟨E', R', m'⟩ := b2
    exact MI_tw hK hs f2 (by rw [up2_n _ _ (by omega)]; exact f3) g.1 (fun t k ht hk => SI_roomS g hn hO ht (by omega)) (MI_5 g8 (by omega) m')
  · have hc' : cEn (wyE a s) = E5 := hc
    show PL n l0 l1 K O s a0 (gThrow (gTakes (gCmB (gPop a s) s E5 (cEf (wyE a s))) s E5 (cEf (wyE a s))) s)
    rw [← hc', eb]
    exact (PL_0 hn hO hs b1 b2 b4 b5 (by rw [eE']; exact hc')).1
