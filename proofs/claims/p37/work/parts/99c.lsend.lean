/-! A message goes, on both sides. -/
variable {Hh : Nat → Nat}
theorem wLg_k {b : AS} {j i : Nat} {V : Int64} {j' : Nat} (h : j' ≠ j) : wLg b j i V j' = b j' := funext fun i' => wLg_n _ _ _ _ h i'
theorem L1_up {r r' a0 b3 b4 b5 b7 b8 b9 b10 b20 b9' b20' : Nat → Int32} {s c : Nat} (hs : s < 2) (h : L1 r a0 b3 b4 b5 b7 b8 b9 b10 b20) (hr : r' = up1 (up1 r (17 - s) (nI c)) (12 + s) (r 0)) (h9 : b9' = up1 b9 s (a0 1)) (h20 : b20' = up1 b20 (1 - s) (nI c)) : L1 r' a0 b3 b4 b5 b7 b8 b9' b10 b20' := by
  subst hr h9 h20
  obtain ⟨x1, x2, x3, x4, x5, x6, h⟩ := h
  have n : ∀ i, i ≠ 17 - s → i ≠ 12 + s → up1 (up1 r (17 - s) (nI c)) (12 + s) (r 0) i = r i := fun i h1 h2 => by rw [up1_n _ _ h2, up1_n _ _ h1]
  refine ⟨(n 0 (by omega) (by omega)).trans x1, (n 1 (by omega) (by omega)).trans x2, (n 18 (by omega) (by omega)).trans x3, (n 19 (by omega) (by omega)).trans x4, (n 20 (by omega) (by omega)).trans x5, (n 21 (by omega) (by omega)).trans x6, fun t ht => ?_⟩
  obtain ⟨y1, y2, y3, y4, y5, y6, y7, y8⟩ := h t ht
  refine ⟨(n _ (by omega) (by omega)).trans y1, (n _ (by omega) (by omega)).trans y2, (n _ (by omega) (by omega)).trans y3, (n _ (by omega) (by omega)).trans y4, (n _ (by omega) (by omega)).trans y5, ?_, (n _ (by omega) (by omega)).trans y7, ?_⟩
  · by_cases e : t = s
    · subst e; rw [up1_s, up1_s]; exact x1
    · rw [n _ (by omega) (by omega), up1_n _ _ e]; exact y6
  · by_cases e : t = s
    · subst e; rw [n _ (by omega) (by omega), up1_n _ _ (by omega)]; exact y8
    · have e2 : 16 + t = 17 - s := by omega
      have e3 : t = 1 - s := by omega
      rw [up1_n _ _ (by omega), e2, e3, up1_s, up1_s]
theorem L2_up {r' : Nat → Int32} {x19 : Int32} {b21 : Nat → Int32} {q : Nat → Nat} {s c H n f : Nat} (hq' : wyL r' (up1 q c (n + 64 * f))) (h19 : x19 = nI H) (hH : H < 65536) (hc : c + 1 ≤ 240) (hn : n < 64) (hf : f ≤ 64) (hk : ∀ k, k < c → ∃ x f g : Nat, x < 64 ∧ f ≤ 64 ∧ g < 2 ∧ q k = x + 64 * f + 8192 * g ∧ b21 (65536 * s + (H + k) % 65536) = nI (2 * (8192 * x + f) + g)) : L2 r' x19 (nI (c + 1)) (up1 b21 (65536 * s + (H + c) % 65536) (nI (2 * (8192 * n + f)))) s := by
  refine ⟨_, c + 1, H, hq', h19, hH, rfl, hc, fun k hk' => ?_⟩
  by_cases e : k = c
  · subst e
    exact ⟨n, f, 0, hn, hf, by decide, by rw [up1_s]; omega, by rw [up1_s]; rfl⟩
  · obtain ⟨x, f', g, q1, q2, q3, q4, q5⟩ := hk k (by omega)
    exact ⟨x, f', g, q1, q2, q3, (up1_n _ _ e).trans q4, (up1_n _ _ (by omega)).trans q5⟩
theorem L2_21 {r : Nat → Int32} {x19 x20 : Int32} {b21 : Nat → Int32} {s t p : Nat} {v : Int32} (hs : s < 2) (ht : t < 2) (hst : s ≠ t) (h : L2 r x19 x20 b21 s) : L2 r x19 x20 (up1 b21 (65536 * t + p % 65536) v) s := by
  obtain ⟨q, c, H, h1, h2, h3, h4, h5, hk⟩ := h
  refine ⟨q, c, H, h1, h2, h3, h4, h5, fun k hk' => ?_⟩
  obtain ⟨x, f, g, q1, q2, q3, q4, q5⟩ := hk k hk'
  exact ⟨x, f, g, q1, q2, q3, q4, (up1_n _ _ (by omega)).trans q5⟩
theorem lk_goF {w s n f : Nat} {b a : AS} (h : LR Hh b a) (hs : s < 2) (hn : n < 64) (hf : f ≤ 64) (hc : tn (a 20 (1 - s)) + 1 ≤ 240) : ∃ b', f_L_go w b (nI s) (nI n) (nI f) = some (b', 0) ∧ LR Hh b' (gGoes a s n f) ∧ ∀ j, 6 ≤ j → b' j = b j := by
  obtain ⟨l0, l1, l2, l3, l4, l5, l6, l7, l8⟩ := h
  obtain ⟨q, c, H, hq, h19, hH, h20, hc1, hk⟩ := l2 (1 - s) (by omega)
  have e3 : 2 + (1 - s) = 3 - s := by omega
  rw [e3] at hq
  have hcb : b 1 (17 - s) = nI c := by
    have := (l1.2.2.2.2.2.2 (1 - s) (by omega)).2.2.2.2.2.2.2
    rw [show 16 + (1 - s) = 17 - s by omega] at this
    exact this.trans h20
  have hct : tn (a 20 (1 - s)) = c := by rw [h20]; exact tnI (by omega)
  rw [hct] at hc
  obtain ⟨V, h1, h2⟩ := f_go (w := w) (n := n) (f := f) hs hq hcb (by omega) hn hf
  refine ⟨_, h1, ?_, fun j hj => by rw [up2_k _ _ (by omega), up2_k _ _ (by omega), wLg_k (by omega)]⟩
  have hp : pl a (1 - s) c = 65536 * (1 - s) + (H + c) % 65536 := by unfold pl; rw [h19, tnI (by omega)]
  have er : ∀ k, k ≠ 9 → k ≠ 20 → k ≠ 21 → gGoes a s n f k = a k := fun k k1 k2 k3 => by unfold gGoes; rw [up2_k _ _ k1, up2_k _ _ k2, up2_k _ _ k3]
  have e9 : gGoes a s n f 9 = up1 (a 9) s (a 0 1) := by unfold gGoes up2; rw [up1_s, up1_n _ _ (by decide), up1_n _ _ (by decide)]
  have e20 : gGoes a s n f 20 = up1 (a 20) (1 - s) (nI (c + 1)) := by unfold gGoes; rw [up2_k _ _ (by decide), hct]; unfold up2; rw [up1_s, up1_n _ _ (by decide)]
  have e21 : gGoes a s n f 21 = up1 (a 21) (65536 * (1 - s) + (H + c) % 65536) (nI (2 * (8192 * n + f))) := by unfold gGoes; rw [up2_k _ _ (by decide), up2_k _ _ (by decide), hct, hp]; unfold up2; rw [up1_s]
  generalize gGoes a s n f = a' at er e9 e20 e21 ⊢
  have br : ∀ k, k ≠ 1 → k ≠ 3 - s → up2 (up2 (wLg b (3 - s) (c / 4) V) 1 (17 - s) (nI (c + 1))) 1 (12 + s) (b 1 0) k = b k := fun k k1 k2 => by rw [up2_k _ _ k1, up2_k _ _ k1, wLg_k k2]
  have b1 : up2 (up2 (wLg b (3 - s) (c / 4) V) 1 (17 - s) (nI (c + 1))) 1 (12 + s) (b 1 0) 1 = up1 (up1 (b 1) (17 - s) (nI (c + 1))) (12 + s) (b 1 0) := by unfold up2; rw [up1_s, up1_s, wLg_k (by omega)]
  have b3 : up2 (up2 (wLg b (3 - s) (c / 4) V) 1 (17 - s) (nI (c + 1))) 1 (12 + s) (b 1 0) (3 - s) = wLg b (3 - s) (c / 4) V (3 - s) := by rw [up2_k _ _ (by omega), up2_k _ _ (by omega)]
  generalize up2 (up2 (wLg b (3 - s) (c / 4) V) 1 (17 - s) (nI (c + 1))) 1 (12 + s) (b 1 0) = b' at br b1 b3 ⊢
  rw [← b3] at h2
  unfold LR
  rw [er 0 (by decide) (by decide) (by decide), er 3 (by decide) (by decide) (by decide), er 4 (by decide) (by decide) (by decide), er 5 (by decide) (by decide) (by decide), er 7 (by decide) (by decide) (by decide), er 8 (by decide) (by decide) (by decide), er 10 (by decide) (by decide) (by decide), er 19 (by decide) (by decide) (by decide), er 11 (by decide) (by decide) (by decide), er 12 (by decide) (by decide) (by decide), er 13 (by decide) (by decide) (by decide), er 14 (by decide) (by decide) (by decide), er 15 (by decide) (by decide) (by decide), er 16 (by decide) (by decide) (by decide), er 17 (by decide) (by decide) (by decide), er 18 (by decide) (by decide) (by decide), er 25 (by decide) (by decide) (by decide), er 26 (by decide) (by decide) (by decide), er 27 (by decide) (by decide) (by decide), er 28 (by decide) (by decide) (by decide), er 23 (by decide) (by decide) (by decide), er 24 (by decide) (by decide) (by decide), er 29 (by decide) (by decide) (by decide), er 30 (by decide) (by decide) (by decide), er 31 (by decide) (by decide) (by decide), er 36 (by decide) (by decide) (by decide), er 37 (by decide) (by decide) (by decide), er 38 (by decide) (by decide) (by decide), er 39 (by decide) (by decide) (by decide), er 40 (by decide) (by decide) (by decide), er 41 (by decide) (by decide) (by decide), er 42 (by decide) (by decide) (by decide), er 43 (by decide) (by decide) (by decide), er 33 (by decide) (by decide) (by decide), er 34 (by decide) (by decide) (by decide), br 8 (by omega) (by omega), br 9 (by omega) (by omega), br 10 (by omega) (by omega), br 11 (by omega) (by omega), br 12 (by omega) (by omega), br 13 (by omega) (by omega), br 14 (by omega) (by omega)]
  refine ⟨l0, L1_up hs l1 b1 e9 e20, fun t ht => ?_, fun t ht => ?_, fun t ht => ?_, l5, l6, l7, l8⟩
  · rw [e20, e21]
    by_cases e : t = s
    · rw [br _ (by omega) (by omega), up1_n _ _ (by omega)]
      exact L2_21 ht (by omega) (by omega) (l2 t ht)
    · have et : t = 1 - s := by omega
      subst et
      rw [e3, up1_s]
      exact L2_up h2 h19 hH hc hn hf hk
  · rw [br _ (by omega) (by omega)]
    exact l3 t ht
  · rw [br _ (by omega) (by omega)]
    exact l4 t ht
theorem lk_go {w s n f : Nat} {b a : AS} (h : LR Hh b a) (hs : s < 2) (hn : n < 64) (hf : f ≤ 64) (hc : tn (a 20 (1 - s)) + 1 ≤ 240) : ∃ b', f_L_go w b (nI s) (nI n) (nI f) = some (b', 0) ∧ LR Hh b' (gGoes a s n f) := by
  obtain ⟨b', h1, h2, -⟩ := lk_goF (w := w) h hs hn hf hc
  exact ⟨b', h1, h2⟩
