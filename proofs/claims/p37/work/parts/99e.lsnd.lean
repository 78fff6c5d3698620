/-! A message is kept and goes: class of steps that all sends are. -/
variable {Hh : Nat → Nat}
theorem kpB_1 (b : AS) (s N V : Nat) : kpB b s N V 1 = up1 (b 1) (4 + s) (nI (N + 1)) := by unfold kpB; rw [wLg_k (by omega)]; unfold up2; rw [up1_s]
theorem kpB_k (b : AS) (s N V : Nat) {k : Nat} (h1 : k ≠ 1) (h2 : k ≠ 4 + s) : kpB b s N V k = b k := by unfold kpB; rw [wLg_k h2, up2_k _ _ h1]
theorem kpB_r (b : AS) (s N V i : Nat) : rwL (kpB b s N V (4 + s)) i = if i = N + 1 then nL V else rwL (b (4 + s)) i := by
  show lgA (kpB b s N V) (4 + s) i = _
  unfold kpB
  by_cases e : i = N + 1
  · subst e; rw [lgA_s, if_pos rfl]
  · rw [lgA_n _ _ _ _ (by omega), if_neg e, lgA_up _ _ _ _ (by omega)]; rfl
theorem lk_keep {s N kd o1 o2 o3 o4 t : Nat} {b a : AS} (h : LR Hh b a) (hs : s < 2) (e4 : a 4 s = nI N) (hN : N + 1 ≤ 63) (et : a 0 1 = nI t) (h6 : t ≤ 100000) (h1 : kd < 16) (h2 : o1 ≤ 100) (h3 : o2 ≤ 100) (h4 : o3 ≤ 100) (h5 : o4 ≤ 100) (h7 : kd = 3 → 1 ≤ o1) : LR Hh (kpB b s N (mcode kd 0 o1 o2 o3 o4 t)) (gKeep a s (nI kd) (nI o1) (nI o2) (nI o3) (nI o4)) := by
  obtain ⟨l0, l1, l2, l3, l4, l5, l6, l7, l8⟩ := h
  have hn : tn (a 4 s) = N := by rw [e4]; exact tnI (by omega)
  have er : ∀ k, (k ≠ 4 ∧ k ≠ 11 ∧ k ≠ 12 ∧ k ≠ 13 ∧ k ≠ 14 ∧ k ≠ 15 ∧ k ≠ 16 ∧ k ≠ 17) → gKeep a s (nI kd) (nI o1) (nI o2) (nI o3) (nI o4) k = a k := fun k hk => by
    obtain ⟨k1, k2, k3, k4, k5, k6, k7, k8⟩ := hk
    unfold gKeep
    rw [up2_k _ _ k8, up2_k _ _ k7, up2_k _ _ k6, up2_k _ _ k5, up2_k _ _ k4, up2_k _ _ k3, up2_k _ _ k2, up2_k _ _ k1]
  have r4 : gKeep a s (nI kd) (nI o1) (nI o2) (nI o3) (nI o4) 4 = up1 (a 4) s (nI (N + 1)) := by
    unfold gKeep
    rw [hn, et]
    rw [up2_k _ _ (by decide), up2_k _ _ (by decide), up2_k _ _ (by decide), up2_k _ _ (by decide), up2_k _ _ (by decide), up2_k _ _ (by decide), up2_k _ _ (by decide)]
    unfold up2
    rw [up1_s]
  have r11 : gKeep a s (nI kd) (nI o1) (nI o2) (nI o3) (nI o4) 11 = up1 (a 11) (8192 * s + (N + 1)) (nI kd) := by
    unfold gKeep
    rw [hn, et]
    rw [up2_k _ _ (by decide), up2_k _ _ (by decide), up2_k _ _ (by decide), up2_k _ _ (by decide), up2_k _ _ (by decide), up2_k _ _ (by decide)]
    unfold up2
    rw [up1_s, up1_n _ _ (by decide)]
  have r12 : gKeep a s (nI kd) (nI o1) (nI o2) (nI o3) (nI o4) 12 = up1 (a 12) (8192 * s + (N + 1)) (nI t) := by
    unfold gKeep
    rw [hn, et]
    rw [up2_k _ _ (by decide), up2_k _ _ (by decide), up2_k _ _ (by decide), up2_k _ _ (by decide), up2_k _ _ (by decide)]
    unfold up2
    rw [up1_s, up1_n _ _ (by decide), up1_n _ _ (by decide)]
  have r13 : gKeep a s (nI kd) (nI o1) (nI o2) (nI o3) (nI o4) 13 = up1 (a 13) (8192 * s + (N + 1)) (nI 0) := by
    unfold gKeep
    rw [hn, et]
    rw [up2_k _ _ (by decide), up2_k _ _ (by decide), up2_k _ _ (by decide), up2_k _ _ (by decide)]
    unfold up2
    rw [up1_s, up1_n _ _ (by decide), up1_n _ _ (by decide), up1_n _ _ (by decide)]
  have r14 : gKeep a s (nI kd) (nI o1) (nI o2) (nI o3) (nI o4) 14 = up1 (a 14) (8192 * s + (N + 1)) (nI o1) := by
    unfold gKeep
    rw [hn, et]
    rw [up2_k _ _ (by decide), up2_k _ _ (by decide), up2_k _ _ (by decide)]
    unfold up2
    rw [up1_s, up1_n _ _ (by decide), up1_n _ _ (by decide), up1_n _ _ (by decide), up1_n _ _ (by decide)]
  have r15 : gKeep a s (nI kd) (nI o1) (nI o2) (nI o3) (nI o4) 15 = up1 (a 15) (8192 * s + (N + 1)) (nI o2) := by
    unfold gKeep
    rw [hn, et]
    rw [up2_k _ _ (by decide), up2_k _ _ (by decide)]
    unfold up2
    rw [up1_s, up1_n _ _ (by decide), up1_n _ _ (by decide), up1_n _ _ (by decide), up1_n _ _ (by decide), up1_n _ _ (by decide)]
  have r16 : gKeep a s (nI kd) (nI o1) (nI o2) (nI o3) (nI o4) 16 = up1 (a 16) (8192 * s + (N + 1)) (nI o3) := by
    unfold gKeep
    rw [hn, et]
    rw [up2_k _ _ (by decide)]
    unfold up2
    rw [up1_s, up1_n _ _ (by decide), up1_n _ _ (by decide), up1_n _ _ (by decide), up1_n _ _ (by decide), up1_n _ _ (by decide), up1_n _ _ (by decide)]
  have r17 : gKeep a s (nI kd) (nI o1) (nI o2) (nI o3) (nI o4) 17 = up1 (a 17) (8192 * s + (N + 1)) (nI o4) := by
    unfold gKeep
    rw [hn, et]
    unfold up2
    rw [up1_s, up1_n _ _ (by decide), up1_n _ _ (by decide), up1_n _ _ (by decide), up1_n _ _ (by decide), up1_n _ _ (by decide), up1_n _ _ (by decide), up1_n _ _ (by decide)]
  generalize gKeep a s (nI kd) (nI o1) (nI o2) (nI o3) (nI o4) = a' at *
  have b1 := kpB_1 b s N (mcode kd 0 o1 o2 o3 o4 t)
  have br : ∀ k, k ≠ 1 → k ≠ 4 + s → kpB b s N (mcode kd 0 o1 o2 o3 o4 t) k = b k := fun k k1 k2 => kpB_k b s N _ k1 k2
  have bL := kpB_r b s N (mcode kd 0 o1 o2 o3 o4 t)
  generalize kpB b s N (mcode kd 0 o1 o2 o3 o4 t) = b' at *
  unfold LR
  rw [er 0 (by decide), er 3 (by decide), er 5 (by decide), er 7 (by decide), er 8 (by decide), er 9 (by decide), er 10 (by decide), er 19 (by decide), er 20 (by decide), er 21 (by decide), er 18 (by decide), er 25 (by decide), er 26 (by decide), er 27 (by decide), er 28 (by decide), er 23 (by decide), er 24 (by decide), er 29 (by decide), er 30 (by decide), er 31 (by decide), er 36 (by decide), er 37 (by decide), er 38 (by decide), er 39 (by decide), er 40 (by decide), er 41 (by decide), er 42 (by decide), er 43 (by decide), er 33 (by decide), er 34 (by decide), br 8 (by omega) (by omega), br 9 (by omega) (by omega), br 10 (by omega) (by omega), br 11 (by omega) (by omega), br 12 (by omega) (by omega), br 13 (by omega) (by omega), br 14 (by omega) (by omega)]
  refine ⟨l0, L1_4 hs l1 b1 r4, fun z hz => ?_, fun z hz => ?_, fun z hz => ?_, l5, l6, l7, l8⟩
  · rw [br _ (by omega) (by omega)]
    exact l2 z hz
  · rw [r4, r11, r12, r13, r14, r15, r16, r17]
    by_cases e : z = s
    · subst e
      rw [up1_s]
      exact L3_up (l3 z hz) e4 hN bL h1 h2 h3 h4 h5 h6 h7
    · rw [br _ (by omega) (by omega), up1_n _ _ e]
      exact L3_o e hz hs (by omega) (l3 z hz)
  · rw [br _ (by omega) (by omega)]
    exact l4 z hz
/-- any send -/
theorem lk_sendF {w s kd o1 o2 o3 o4 : Nat} {b a : AS} (h : LR Hh b a) (hs : s < 2) (hu : a 0 2 = nI 0 ∨ a 0 2 = nI 1) (hN : tn (a 4 s) + 1 ≤ 63) (hc : tn (a 20 (1 - s)) + 1 ≤ 240) (h1 : kd < 16) (h2 : o1 ≤ 100) (h3 : o2 ≤ 100) (h4 : o3 ≤ 100) (h5 : o4 ≤ 100) (h7 : kd = 3 → 1 ≤ o1 := by omega) : ∃ b', f_L_send w b (nI s) (nI kd) (nI o1) (nI o2) (nI o3) (nI o4) = some (b', 0) ∧ LR Hh b' (gSends a s (nI kd) (nI o1) (nI o2) (nI o3) (nI o4)) ∧ ∀ j, 6 ≤ j → b' j = b j := by
  obtain ⟨N, e4, hN2, -⟩ := h.2.2.2.1 s hs
  obtain ⟨⟨t, et, ht⟩, -⟩ := h.1
  have hn : tn (a 4 s) = N := by rw [e4]; exact tnI (by omega)
  have g0 : b 1 0 = nI t := h.2.1.1.trans et
  have g1 : b 1 1 = a 0 2 := h.2.1.2.1
  have g4 : b 1 (4 + s) = nI N := (h.2.1.2.2.2.2.2.2 s hs).2.1.trans e4
  rw [hn] at hN
  have hk := lk_keep h hs e4 hN et ht h1 h2 h3 h4 h5 h7
  rw [f_send hs g4 (by omega) g0 (by omega) (by omega) (by omega) (by omega) (by omega) (by omega)]
  unfold gSends
  rcases hu with hu | hu
  · rw [if_neg (by rw [g1, hu]; decide), if_pos (show a 0 2 = 0 from hu)]
    exact ⟨_, rfl, hk, fun j hj => kpB_k _ _ _ _ (by omega) (by omega)⟩
  · rw [if_pos (by rw [g1, hu]; rfl), if_neg (by rw [hu]; decide), hn]
    have e20 : gKeep a s (nI kd) (nI o1) (nI o2) (nI o3) (nI o4) 20 = a 20 := by
      unfold gKeep
      rw [up2_k _ _ (by decide), up2_k _ _ (by decide), up2_k _ _ (by decide), up2_k _ _ (by decide), up2_k _ _ (by decide), up2_k _ _ (by decide), up2_k _ _ (by decide), up2_k _ _ (by decide)]
    obtain ⟨b', e, h', hfr⟩ := lk_goF (w := w) (n := N + 1) (f := 0) hk hs (by omega) (by decide) (by rw [e20]; exact hc)
    refine ⟨b', ?_, h', fun j hj => (hfr j hj).trans (kpB_k _ _ _ _ (by omega) (by omega))⟩
    rw [show (0 : Int32) = nI 0 from rfl, e]
    rfl
theorem lk_send {w s kd o1 o2 o3 o4 : Nat} {b a : AS} (h : LR Hh b a) (hs : s < 2) (hu : a 0 2 = nI 0 ∨ a 0 2 = nI 1) (hN : tn (a 4 s) + 1 ≤ 63) (hc : tn (a 20 (1 - s)) + 1 ≤ 240) (h1 : kd < 16) (h2 : o1 ≤ 100) (h3 : o2 ≤ 100) (h4 : o3 ≤ 100) (h5 : o4 ≤ 100) (h7 : kd = 3 → 1 ≤ o1 := by omega) : ∃ b', f_L_send w b (nI s) (nI kd) (nI o1) (nI o2) (nI o3) (nI o4) = some (b', 0) ∧ LR Hh b' (gSends a s (nI kd) (nI o1) (nI o2) (nI o3) (nI o4)) := by
  obtain ⟨b', h1', h2', -⟩ := lk_sendF (w := w) h hs hu hN hc h1 h2 h3 h4 h5 h7
  exact ⟨b', h1', h2'⟩
