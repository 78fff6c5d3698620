/-! An answer, message by message. -/
variable {Hh : Nat → Nat}
theorem an_116 {w s G N n : Nat} {b : AS} {k15 : AS → Int32 → Int32 → Int32 → Int32 → Option (AS × Int32)} (hG : G < 64) : b_L_answer_116 k15 w b (nI s) (nI G) (nI N) (nI n) = k15 b (nI s) (nI (if G = 0 then n else G)) (nI N) (nI (n + 1)) := by
  unfold b_L_answer_116
  by_cases c : G = 0
  · subst c
    rw [if_pos rfl, if_pos (show nI 0 = (0 : Int32) from rfl)]
    show k15 b (nI s) (nI n) (nI N) (nI n + 1) = _
    rw [show nI n + (1 : Int32) = nI (n + 1) from nI_add n 1]
  · rw [if_neg (show ¬ nI G = (0 : Int32) from fun e => c ((nI_eq (by omega) (by decide)).mp e)), if_neg c]
    show k15 b (nI s) (nI G) (nI N) (nI n + 1) = _
    rw [show nI n + (1 : Int32) = nI (n + 1) from nI_add n 1]
theorem an_150 {w s N n : Nat} {b a : AS} {k15 : AS → Int32 → Int32 → Int32 → Int32 → Option (AS × Int32)} (h : LR Hh b a) (hs : s < 2) (hn1 : 1 ≤ n) (hn : n ≤ tn (a 4 s)) (hn2 : n < 64) (hc : tn (a 20 (1 - s)) + 1 ≤ 240) : ∃ b', b_L_answer_150 k15 w b (nI s) (nI N) (nI n) = k15 b' (nI s) (nI 0) (nI N) (nI (n + 1)) ∧ LR Hh b' (gGoes (up2 a 13 (8192 * s + n) (nI 1)) s n 0) := by
  have hL := lr_again h hs hn1 hn
  obtain ⟨b', e, hL'⟩ := lk_go (w := w) (n := n) (f := 0) hL hs hn2 (by decide) (by rw [up2_k _ _ (by decide)]; exact hc)
  refine ⟨b', ?_, hL'⟩
  have key : b_L_answer_164 k15 w b (nI s) (0 : Int32) (nI N) (nI n) (4 + s) = k15 b' (nI s) (nI 0) (nI N) (nI (n + 1)) := by
    unfold b_L_answer_164
    rw [show lnB (4 + s) 64 = true from by rcases (show s = 0 ∨ s = 1 by omega) with rfl | rfl <;> decide, ixn hn2 (by decide), nI_clamp (by omega)]
    show (f_L_go w (wLg b (4 + s) n (lgA b (4 + s) n ||| (16 : Int64))) (nI s) (nI n) (0 : Int32)).bind _ = _
    rw [show (0 : Int32) = nI 0 from rfl, e]
    show k15 b' (nI s) (nI 0) (nI N) (nI n + 1) = _
    rw [show nI n + (1 : Int32) = nI (n + 1) from nI_add n 1]
  unfold b_L_answer_150
  rcases (show s = 0 ∨ s = 1 by omega) with rfl | rfl
  · rw [if_pos (show nI 0 = (0 : Int32) from rfl)]; exact key
  · rw [if_neg (by decide)]; exact key
theorem tn_20 {a : AS} {s n f : Nat} (hs : s < 2) (h : ∃ c : Nat, a 20 (1 - s) = nI c ∧ c < 1000) : tn (gGoes a s n f 20 (1 - s)) = tn (a 20 (1 - s)) + 1 := by
  obtain ⟨c, e, hc⟩ := h
  unfold gGoes
  rw [up2_k _ _ (by decide), up2_s, e, tnI (show c < 2 ^ 31 by omega), tnI (by omega)]
theorem LR_20 {b a : AS} {s : Nat} (h : LR Hh b a) (hs : s < 2) : ∃ c : Nat, a 20 s = nI c ∧ c < 1000 := by
  obtain ⟨q, c, H, -, -, -, e, hc, -⟩ := h.2.2.1 s hs
  exact ⟨c, e, by omega⟩
theorem gGoes_4 (a : AS) (s n f : Nat) : gGoes a s n f 4 = a 4 := by
  unfold gGoes
  rw [up2_k _ _ (by decide), up2_k _ _ (by decide), up2_k _ _ (by decide)]
theorem an_105 {w s G N n kd : Nat} {b a : AS} {k15 : AS → Int32 → Int32 → Int32 → Int32 → Option (AS × Int32)} (h : LR Hh b a) (hs : s < 2) (hn1 : 1 ≤ n) (hn : n ≤ tn (a 4 s)) (hn2 : n < 64) (hG : G < 64) (hk : 5 ≤ kd) (hk2 : kd < 16) (hc : tn (a 20 (1 - s)) + 2 ≤ 240) : ∃ b', b_L_answer_105 k15 w b (nI s) (nI G) (nI N) (nI n) (nI kd) (0 : Int32) = k15 b' (nI s) (nI 0) (nI N) (nI (n + 1)) ∧ LR Hh b' (gGoes (up2 (if 0 < G then gGoes a s G n else a) 13 (8192 * s + n) (nI 1)) s n 0) := by
  unfold b_L_answer_105
  rw [if_pos rfl, if_pos (show (5 : Int32) ≤ nI kd from (nI_leI (by decide) (by omega)).mpr hk)]
  by_cases c : 0 < G
  · rw [if_neg (show ¬ nI G ≤ (0 : Int32) from fun e => by have := (nI_leI (a := G) (b := 0) (by omega) (by decide)).mp e; omega), if_pos c]
    obtain ⟨b1, e1, h1⟩ := lk_go (w := w) (n := G) (f := n) h hs hG (by omega) (by omega)
    rw [e1]
    obtain ⟨b2, e2, h2⟩ := an_150 (w := w) (N := N) (k15 := k15) h1 hs hn1 (by rw [gGoes_4]; exact hn) hn2 (by rw [tn_20 hs (LR_20 h (by omega))]; omega)
    exact ⟨b2, e2, h2⟩
  · rw [if_pos (show nI G ≤ (0 : Int32) from by rw [show G = 0 by omega]; decide), if_neg c]
    exact an_150 h hs hn1 hn hn2 (by omega)
