/-! The whole answer. -/
variable {Hh : Nat → Nat}
theorem an_loop {w s N H : Nat} (hs : s < 2) (hN : N < 64) : ∀ (d m n G c : Nat) (b a : AS), n + d = N + 1 → d < m → LR Hh b a → 1 ≤ n → G < n → a 4 s = nI N → ansI a s H c → c + 2 * d + 2 ≤ 240 → (∀ i, 1 ≤ i → i ≤ N → a 11 (8192 * s + i) = nI 5 → tn (a 14 (8192 * s + i)) < tn (a 0 22)) → ∃ b', l_L_answer_15 w m b (nI s) (nI G) (nI N) (nI n) = some (b', 0) ∧ LR Hh b' (gAnsE s N (gAnsL s d n (a, G))) := by
  intro d
  induction d with
  | zero =>
    intro m n G c b a hn hm h hn1 hG e4 hA hc hO
    obtain ⟨m', rfl⟩ : ∃ m', m = m' + 1 := ⟨m - 1, by omega⟩
    have hc20 : tn (a 20 (1 - s)) = c := by rw [hA.2.2]; exact tnI (by omega)
    show ∃ b', b_L_answer_15 (l_L_answer_15 w m') w b (nI s) (nI G) (nI N) (nI n) = some (b', 0) ∧ LR Hh b' (gAnsE s N (a, G))
    unfold b_L_answer_15 gAnsE
    rw [if_pos (show nI N < nI n from (nI_ltI (by omega) (by omega)).mpr (by omega))]
    by_cases g : 0 < G
    · rw [if_neg (show ¬ nI G ≤ (0 : Int32) from fun e => by have := (nI_leI (a := G) (b := 0) (by omega) (by decide)).mp e; omega), if_pos g, show nI N + (1 : Int32) = nI (N + 1) from nI_add N 1]
      obtain ⟨b1, e1, h1⟩ := lk_go (w := w) (n := G) (f := N + 1) h hs (by omega) (by omega) (by omega)
      refine ⟨b1, ?_, h1⟩
      rw [e1]
      rfl
    · rw [if_pos (show nI G ≤ (0 : Int32) from by rw [show G = 0 by omega]; decide), if_neg g]
      exact ⟨b, rfl, h⟩
  | succ d ih =>
    intro m n G c b a hn hm h hn1 hG e4 hA hc hO
    obtain ⟨m', rfl⟩ : ∃ m', m = m' + 1 := ⟨m - 1, by omega⟩
    have hc20 : tn (a 20 (1 - s)) = c := by rw [hA.2.2]; exact tnI (by omega)
    obtain ⟨b1, e1, h1⟩ := an_step (w := w) (k15 := l_L_answer_15 w m') h hs e4 hN hn1 (by omega) (show G < 64 by omega) (by omega) (hO n hn1 (by omega))
    obtain ⟨c', hA', -, hc'⟩ := gAns1_r s (a, G) n H c hA (by omega)
    have hG' := gAns1_2 s (a, G) n hG
    have k4 : (gAns1 s (a, G) n).1 4 s = nI N := (gAns1_k s (a, G) n 4 s (by decide) (by decide) (by decide) (by decide) (by decide)).trans e4
    obtain ⟨b', e', h'⟩ := ih m' (n + 1) (gAns1 s (a, G) n).2 c' b1 (gAns1 s (a, G) n).1 (by omega) (by omega) h1 (by omega) hG' k4 hA' (by omega) (fun i h1i hi => by
      rw [gAns1_k s (a, G) n 11 _ (by decide) (by decide) (by decide) (by decide) (by decide), gAns1_k s (a, G) n 14 _ (by decide) (by decide) (by decide) (by decide) (by decide), gAns1_k s (a, G) n 0 _ (by decide) (by decide) (by decide) (by decide) (by decide)]
      exact hO i h1i hi)
    exact ⟨b', e1.trans e', h'⟩
/-- answer: on both sides -/
theorem lk_answer {w s f N H c : Nat} {b a : AS} (h : LR Hh b a) (hs : s < 2) (hw : 100 < w) (e4 : a 4 s = nI N) (hN : N < 64) (hf : 1 ≤ f) (hf2 : f ≤ N + 1) (hA : ansI a s H c) (hc : c + 2 * N + 2 ≤ 240) (hO : ∀ i, 1 ≤ i → i ≤ N → a 11 (8192 * s + i) = nI 5 → tn (a 14 (8192 * s + i)) < tn (a 0 22)) : ∃ b', f_L_answer w b (nI s) (nI f) = some (b', 0) ∧ LR Hh b' (gAnswers a s f) := by
  have g4 : b 1 (4 + s) = nI N := (h.2.1.2.2.2.2.2.2 s hs).2.1.trans e4
  obtain ⟨b', e, h'⟩ := an_loop (w := w) (H := H) hs hN (N + 1 - f) w f 0 c b a (by omega) (by omega) h hf (by omega) e4 hA (by omega) hO
  refine ⟨b', ?_, ?_⟩
  · unfold f_L_answer
    rcases (show s = 0 ∨ s = 1 by omega) with rfl | rfl
    · show l_L_answer_15 w w b (nI 0) (0 : Int32) (b 1 4) (nI f) = _
      rw [show b 1 4 = nI N from g4]
      exact e
    · show l_L_answer_15 w w b (nI 1) (0 : Int32) (b 1 5) (nI f) = _
      rw [show b 1 5 = nI N from g4]
      exact e
  · unfold gAnswers
    rw [e4, tnI (by omega), Nat.max_eq_left hf]
    exact h'
