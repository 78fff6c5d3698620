/-! The turn ends with nothing held at the expected one. -/
theorem hdP_E {n : Nat → Nat} {l0 l1 s : Nat} {M : AS → Prop} (hn : sm8 n ≤ 512) (hO : n 4 ≤ 40) (hs : s < 2) (hM : ∀ a, hdP n l0 l1 s a → M a → hN a s (tn (a 5 s)) ≠ 0 → M (gHd1 a s)) (hw : ∀ a, hdP n l0 l1 s a → M a → hN a s (tn (a 5 s)) = 1 → wrk a s (tn (a 5 s))) : ∀ (k : Nat) (a : AS), hdP n l0 l1 s a → M a → 8192 ≤ k + tn (a 5 s) → ∀ i, i ≤ tn (gHdL s k a 5 s) → hN (gHdL s k a) s i = 0 := by
  intro k
  induction k with
  | zero =>
    intro a h hm hk
    obtain ⟨-, ⟨E, e5, hE⟩, -⟩ := h.1.1.2.2 s hs
    rw [e5, tnI (by omega)] at hk
    omega
  | succ k ih =>
    intro a h hm hk
    have e : gHdL s (k + 1) a = if a 18 (8192 * s + tn (a 5 s)) ≤ nI 0 then a else gHdL s k (gHd1 a s) := rfl
    rw [e]
    by_cases c : a 18 (8192 * s + tn (a 5 s)) ≤ nI 0
    · rw [if_pos c]
      intro i hi
      have h0 := (hdP_0 hs h).mp c
      by_cases ci : i = tn (a 5 s)
      · rw [ci]; exact h0
      · exact Classical.byContradiction (fun hne => by have := h.2.2.2 i hne; omega)
    · rw [if_neg c]
      have hh : hN a s (tn (a 5 s)) ≠ 0 := fun e => c ((hdP_0 hs h).mpr e)
      have g := hdP_1 hn hO hs hh (fun e => hw a h hm e) h
      exact ih _ g.1 (hM a h hm hh) (by have := g.2; omega)
