/-! The line goes down. -/
variable {Hh : Nat → Nat}
theorem l_down {w : Nat} {x3 : Int32} : ∀ (d n k : Nat) (b : AS), k + d = 64 → d < n → ∃ b', l_L_down_55 w n b x3 (nI k) = some (b', x3) ∧ (∀ j, j ≠ 6 → j ≠ 7 → b' j = b j) ∧ ∀ i, b' 6 i = (if k ≤ i ∧ i < 64 then nI 0 else b 6 i) ∧ b' 7 i = (if k ≤ i ∧ i < 64 then nI 0 else b 7 i) := by
  intro d
  induction d with
  | zero =>
    intro n k b hk hn
    obtain ⟨m, rfl⟩ : ∃ m, n = m + 1 := ⟨n - 1, by omega⟩
    have e : k = 64 := by omega
    subst e
    refine ⟨b, ?_, fun _ _ _ => rfl, fun i => ⟨(if_neg (by omega)).symm, (if_neg (by omega)).symm⟩⟩
    show b_L_down_55 (l_L_down_55 w m) w b x3 (nI 64) = _
    unfold b_L_down_55
    rw [if_pos (show (64 : Int32) ≤ nI 64 from by decide)]
  | succ d ih =>
    intro n k b hk hn
    obtain ⟨m, rfl⟩ : ∃ m, n = m + 1 := ⟨n - 1, by omega⟩
    obtain ⟨b', h1, h2, h3⟩ := ih m (k + 1) (up2 (up2 b 6 k (nI 0)) 7 k (nI 0)) (by omega) (by omega)
    refine ⟨b', ?_, fun j j1 j2 => ?_, fun i => ?_⟩
    · show b_L_down_55 (l_L_down_55 w m) w b x3 (nI k) = _
      unfold b_L_down_55
      rw [if_neg (show ¬ (64 : Int32) ≤ nI k from by rw [show (64 : Int32) = nI 64 from rfl, nI_leI (by decide) (by omega)]; omega), ixn (by omega) (by decide), nI_clamp (by omega), show nI k + (1 : Int32) = nI (k + 1) from nI_add k 1]
      exact h1
    · rw [h2 j j1 j2, up2_k _ _ j2, up2_k _ _ j1]
    · obtain ⟨g1, g2⟩ := h3 i
      rw [g1, g2]
      constructor
      · by_cases e : i = k
        · subst e; rw [if_neg (by omega), if_pos (by omega), up2_n _ _ (by omega), up2_s]
        · rw [up2_n _ _ (by omega), up2_n _ _ (by omega)]
          by_cases f : k ≤ i ∧ i < 64
          · rw [if_pos f, if_pos (by omega)]
          · rw [if_neg f, if_neg (by omega)]
      · by_cases e : i = k
        · subst e; rw [if_neg (by omega), if_pos (by omega), up2_s]
        · rw [up2_n _ _ (by omega), up2_n _ _ (by omega)]
          by_cases f : k ≤ i ∧ i < 64
          · rw [if_pos f, if_pos (by omega)]
          · rw [if_neg f, if_neg (by omega)]
def dn1 (r : Nat → Int32) : Nat → Int32 := up1 (up1 (up1 (up1 (up1 (up1 (up1 r 1 0) 2 0) 8 0) 16 0) 3 0) 9 0) 17 0
theorem f_down {w : Nat} {b : AS} (hw : 100 < w) : ∃ b', f_L_down w b = some (b', b 1 16 + b 1 17) ∧ b' 1 = dn1 (b 1) ∧ (∀ j, j ≠ 1 → j ≠ 6 → j ≠ 7 → b' j = b j) ∧ ∀ i, i < 64 → b' 6 i = nI 0 ∧ b' 7 i = nI 0 := by
  obtain ⟨b', h1, h2, h3⟩ := l_down (w := w) (x3 := b 1 16 + b 1 17) 64 w 0 (up2 (up2 (up2 (up2 (up2 (up2 (up2 b 1 1 0) 1 2 0) 1 8 0) 1 16 0) 1 3 0) 1 9 0) 1 17 0) rfl (by omega)
  refine ⟨b', ?_, ?_, fun j j1 j2 j3 => ?_, fun i hi => ?_⟩
  · obtain ⟨m, rfl⟩ : ∃ m, w = m + 3 := ⟨w - 3, by omega⟩
    show (bif ixB (16 : Int32) 22 then bif ixB (17 : Int32) 22 then l_L_down_17 (m + 3) (m + 3) (up2 b 1 1 0) (b 1 16 + b 1 17) (0 : Int32) else none else none) = _
    rw [show ixB (16 : Int32) 22 = true from rfl, show ixB (17 : Int32) 22 = true from rfl]
    show b_L_down_17 (l_L_down_17 (m + 3) (m + 2)) (m + 3) (up2 b 1 1 0) (b 1 16 + b 1 17) (0 : Int32) = _
    unfold b_L_down_17
    rw [if_neg (by decide)]
    show l_L_down_17 (m + 3) (m + 2) (up2 (up2 (up2 (up2 b 1 1 0) 1 2 0) 1 8 0) 1 16 0) (b 1 16 + b 1 17) (1 : Int32) = _
    show b_L_down_17 (l_L_down_17 (m + 3) (m + 1)) (m + 3) (up2 (up2 (up2 (up2 b 1 1 0) 1 2 0) 1 8 0) 1 16 0) (b 1 16 + b 1 17) (1 : Int32) = _
    unfold b_L_down_17
    rw [if_neg (by decide)]
    show b_L_down_17 (l_L_down_17 (m + 3) m) (m + 3) (up2 (up2 (up2 (up2 (up2 (up2 (up2 b 1 1 0) 1 2 0) 1 8 0) 1 16 0) 1 3 0) 1 9 0) 1 17 0) (b 1 16 + b 1 17) (2 : Int32) = _
    unfold b_L_down_17
    rw [if_pos (by decide)]
    exact h1
  · rw [h2 1 (by decide) (by decide)]
    unfold dn1 up2
    simp only [up1_s]
  · rw [h2 j j2 j3, up2_k _ _ j1, up2_k _ _ j1, up2_k _ _ j1, up2_k _ _ j1, up2_k _ _ j1, up2_k _ _ j1, up2_k _ _ j1]
  · rw [(h3 i).1, (h3 i).2, if_pos ⟨Nat.zero_le _, hi⟩, if_pos ⟨Nat.zero_le _, hi⟩]
    exact ⟨rfl, rfl⟩
theorem lk_down {Hg : Nat → Nat} {w : Nat} {b a : AS} (h : LR Hh b a) (hw : 100 < w) : ∃ b', f_L_down w b = some (b', a 20 0 + a 20 1) ∧ LR Hg b' (gDown (up2 a 0 0 (nI 0))) := by
  obtain ⟨l0, l1, l2, l3, l4, l5, l6, l7, l8⟩ := h
  obtain ⟨b', h1, h2, h3, h4⟩ := f_down (b := b) hw
  have y0 := l1.2.2.2.2.2.2 0 (by decide)
  have y1 := l1.2.2.2.2.2.2 1 (by decide)
  refine ⟨b', ?_, ?_⟩
  · rw [h1, show b 1 16 = a 20 0 from y0.2.2.2.2.2.2.2, show b 1 17 = a 20 1 from y1.2.2.2.2.2.2.2]
  · have er : ∀ k, k ≠ 18 → k ≠ 6 → k ≠ 7 → k ≠ 3 → k ≠ 19 → k ≠ 20 → k ≠ 0 → gDown (up2 a 0 0 (nI 0)) k = a k := fun k k1 k2 k3 k4 k5 k6 k7 => by rw [gDown_r _ k k1 k2 k3 k4 k5 k6 k7, up2_k _ _ k7]
    have e0 : ∀ i, i ≠ 2 → i ≠ 0 → gDown (up2 a 0 0 (nI 0)) 0 i = a 0 i := fun i i1 i2 => by rw [gDown_00, if_neg i1, up2_n _ _ (by omega)]
    have e2 : gDown (up2 a 0 0 (nI 0)) 0 2 = nI 0 := by rw [gDown_00, if_pos rfl]
    have ez : ∀ k t, t < 2 → (k = 7 ∨ k = 3 ∨ k = 19 ∨ k = 20) → gDown (up2 a 0 0 (nI 0)) k t = nI 0 := fun k t ht hk => gDown_z _ k t ht hk
    have e18 : ∀ t i, t < 2 → i < 8192 → gDown (up2 a 0 0 (nI 0)) 18 (8192 * t + i) = nI 0 := fun t i ht hi => gDown_18 _ t i ht hi
    generalize gDown (up2 a 0 0 (nI 0)) = a' at *
    unfold LR
    rw [er 4 (by decide) (by decide) (by decide) (by decide) (by decide) (by decide) (by decide), er 5 (by decide) (by decide) (by decide) (by decide) (by decide) (by decide) (by decide), er 8 (by decide) (by decide) (by decide) (by decide) (by decide) (by decide) (by decide), er 9 (by decide) (by decide) (by decide) (by decide) (by decide) (by decide) (by decide), er 10 (by decide) (by decide) (by decide) (by decide) (by decide) (by decide) (by decide), er 11 (by decide) (by decide) (by decide) (by decide) (by decide) (by decide) (by decide), er 12 (by decide) (by decide) (by decide) (by decide) (by decide) (by decide) (by decide), er 13 (by decide) (by decide) (by decide) (by decide) (by decide) (by decide) (by decide), er 14 (by decide) (by decide) (by decide) (by decide) (by decide) (by decide) (by decide), er 15 (by decide) (by decide) (by decide) (by decide) (by decide) (by decide) (by decide), er 16 (by decide) (by decide) (by decide) (by decide) (by decide) (by decide) (by decide), er 17 (by decide) (by decide) (by decide) (by decide) (by decide) (by decide) (by decide), er 21 (by decide) (by decide) (by decide) (by decide) (by decide) (by decide) (by decide), er 25 (by decide) (by decide) (by decide) (by decide) (by decide) (by decide) (by decide), er 26 (by decide) (by decide) (by decide) (by decide) (by decide) (by decide) (by decide), er 27 (by decide) (by decide) (by decide) (by decide) (by decide) (by decide) (by decide), er 28 (by decide) (by decide) (by decide) (by decide) (by decide) (by decide) (by decide), er 23 (by decide) (by decide) (by decide) (by decide) (by decide) (by decide) (by decide), er 24 (by decide) (by decide) (by decide) (by decide) (by decide) (by decide) (by decide), er 29 (by decide) (by decide) (by decide) (by decide) (by decide) (by decide) (by decide), er 30 (by decide) (by decide) (by decide) (by decide) (by decide) (by decide) (by decide), er 31 (by decide) (by decide) (by decide) (by decide) (by decide) (by decide) (by decide), er 36 (by decide) (by decide) (by decide) (by decide) (by decide) (by decide) (by decide), er 37 (by decide) (by decide) (by decide) (by decide) (by decide) (by decide) (by decide), er 38 (by decide) (by decide) (by decide) (by decide) (by decide) (by decide) (by decide), er 39 (by decide) (by decide) (by decide) (by decide) (by decide) (by decide) (by decide), er 40 (by decide) (by decide) (by decide) (by decide) (by decide) (by decide) (by decide), er 41 (by decide) (by decide) (by decide) (by decide) (by decide) (by decide) (by decide), er 42 (by decide) (by decide) (by decide) (by decide) (by decide) (by decide) (by decide), er 43 (by decide) (by decide) (by decide) (by decide) (by decide) (by decide) (by decide), er 33 (by decide) (by decide) (by decide) (by decide) (by decide) (by decide) (by decide), er 34 (by decide) (by decide) (by decide) (by decide) (by decide) (by decide) (by decide), e0 1 (by decide) (by decide), e0 22 (by decide) (by decide), e0 35 (by decide) (by decide), h3 8 (by decide) (by decide) (by decide), h3 9 (by decide) (by decide) (by decide), h3 10 (by decide) (by decide) (by decide), h3 11 (by decide) (by decide) (by decide), h3 12 (by decide) (by decide) (by decide), h3 13 (by decide) (by decide) (by decide), h3 14 (by decide) (by decide) (by decide), h2]
    refine ⟨by rw [e0 44 (by decide) (by decide)]; exact l0, ⟨?_, ?_, ?_, ?_, ?_, ?_, fun s hs => ?_⟩, fun s hs => ?_, fun s hs => ?_, fun s hs => ?_, l5, l6, l7, l8⟩
    · rw [e0 1 (by decide) (by decide)]; exact l1.1
    · rw [e2]; rfl
    · rw [e0 22 (by decide) (by decide)]; exact l1.2.2.1
    · rw [e0 35 (by decide) (by decide)]; exact l1.2.2.2.1
    · rw [e0 44 (by decide) (by decide)]; exact l1.2.2.2.2.1
    · rw [e0 32 (by decide) (by decide)]; exact l1.2.2.2.2.2.1
    · rw [ez 3 s hs (by omega), ez 7 s hs (by omega), ez 20 s hs (by omega)]
      rcases (show s = 0 ∨ s = 1 by omega) with rfl | rfl
      · exact ⟨rfl, y0.2.1, y0.2.2.1, rfl, y0.2.2.2.2.1, y0.2.2.2.2.2.1, y0.2.2.2.2.2.2.1, rfl⟩
      · exact ⟨rfl, y1.2.1, y1.2.2.1, rfl, y1.2.2.2.2.1, y1.2.2.2.2.2.1, y1.2.2.2.2.2.2.1, rfl⟩
    · obtain ⟨q, c, H, g1, -, -, -, -, -⟩ := l2 s hs
      rw [h3 _ (by omega) (by omega) (by omega), ez 19 s hs (by omega), ez 20 s hs (by omega)]
      exact ⟨q, 0, 0, g1, rfl, by decide, rfl, by decide, fun k hk => absurd hk (Nat.not_lt_zero _)⟩
    · rw [h3 _ (by omega) (by omega) (by omega)]
      exact l3 s hs
    · intro n hn _
      refine ⟨0, e18 s n hs hn, Or.inl (by decide), by decide, fun hn2 => ?_, fun _ => rfl⟩
      rcases (show s = 0 ∨ s = 1 by omega) with rfl | rfl
      · exact (h4 n hn2).1
      · exact (h4 n hn2).2
