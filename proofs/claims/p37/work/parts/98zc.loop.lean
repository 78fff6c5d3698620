/-! The turn's loop, over what the books keep (M). -/
theorem hdP_L {n : Nat → Nat} {l0 l1 s : Nat} {M : AS → Prop} (hn : sm8 n ≤ 512) (hO : n 4 ≤ 40) (hs : s < 2) (hM : ∀ a, hdP n l0 l1 s a → M a → hN a s (tn (a 5 s)) ≠ 0 → M (gHd1 a s)) (hw : ∀ a, hdP n l0 l1 s a → M a → hN a s (tn (a 5 s)) = 1 → wrk a s (tn (a 5 s))) : ∀ (k : Nat) (a : AS), hdP n l0 l1 s a → M a → hdP n l0 l1 s (gHdL s k a) ∧ M (gHdL s k a) := by
  intro k
  induction k with
  | zero => exact fun a h hm => ⟨h, hm⟩
  | succ k ih =>
    intro a h hm
    show hdP n l0 l1 s (if a 18 (8192 * s + tn (a 5 s)) ≤ nI 0 then a else gHdL s k (gHd1 a s)) ∧ M (if a 18 (8192 * s + tn (a 5 s)) ≤ nI 0 then a else gHdL s k (gHd1 a s))
    by_cases c : a 18 (8192 * s + tn (a 5 s)) ≤ nI 0
    · rw [if_pos c]
      exact ⟨h, hm⟩
    · rw [if_neg c]
      have hh : hN a s (tn (a 5 s)) ≠ 0 := fun e => c ((hdP_0 hs h).mpr e)
      exact ih _ (hdP_1 hn hO hs hh (fun e => hw a h hm e) h).1 (hM a h hm hh)
/-- routing of a quote's orders -/
theorem SI_quoL {n : Nat → Nat} {l0 l1 d : Nat} {p : Nat → Nat} (hn : sm8 n ≤ 512) (hO : n 4 ≤ 40) (hd : d < 2) : ∀ (g i : Nat) (a : AS), (∀ j, i ≤ j → j < i + g → p j < tn (a 0 22) ∧ a 24 (40 + p j) ≠ nI 0 ∧ a 23 (p j) = nI d) → SI n 0 0 l0 (l1 + if laN a = 0 then 1 else 0) a → SI n 0 0 l0 l1 (gQL p g i a) := by
  intro g
  induction g with
  | zero => exact fun i a _ h => SI_less (Nat.le_refl _) (Nat.le_add_right _ _) h
  | succ g ih =>
    intro i a hp h
    obtain ⟨p1, p2, p3⟩ := hp i (Nat.le_refl _) (by omega)
    refine ih (i + 1) (gRoutes a (p i)) (fun j h1 h2 => ?_) (SI_routes hn hO hd p1 p2 p3 h)
    rw [gRoutes_q _ _ 0 22 (by omega), gRoutes_q _ _ 24 _ (by omega), gRoutes_q _ _ 23 _ (by omega)]
    exact hp j (by omega) (by omega)
