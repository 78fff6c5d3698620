/-! At first. -/
theorem c1_hc (s : Nat) : ∀ n, hcnt (c1a 18) s n = 0
  | 0 => rfl
  | n + 1 => by
    show hcnt (c1a 18) s n + (if c1a 18 (8192 * s + n) = nI 0 then 0 else 1) = 0
    rw [c1_hc s n, if_pos (show c1a 18 (8192 * s + n) = nI 0 from rfl)]
theorem c1P_0 {k i j : Nat} (h : k ≠ 24) : c1P k i j = 0 := by
  unfold c1P
  split
  · exact absurd rfl h
  · rfl
theorem c1_RF : RF c1P c1C := by
  intro κ hκ k' i' j _ he
  by_cases h : k' = 24
  · subst h
    have : eK 24 i' = 25 := rfl
    omega
  · rw [c1P_0 h]
    exact Nat.zero_le _
theorem c1_R2 : R2 (c1a 0 2) (c1M 1) (c1a 3) (c1a 5) (c1a 7) (c1a 8) (c1a 9) (c1a 10) := by
  intro s hs
  have e5 : c1a 5 s = nI 1 := by rcases (show s = 0 ∨ s = 1 by omega) with rfl | rfl <;> rfl
  refine ⟨rfl, ?_, rfl, rfl, rfl, fun _ => rfl, Or.inl rfl, 1, e5, by omega, by omega⟩
  rw [e5]
  rfl
theorem c1_R4 : R4 (c1M 2) (c1M 10) (c1M 11) (c1M 12) (c1N 10) (c1N 11) (c1N 12) (c1a 19) (c1a 20) (c1a 21) := fun t _ =>
  ⟨0, 0, 0, rfl, rfl, rfl, rfl, by decide, by decide, by show 0 < 32; decide, by show 0 ≤ 32; decide, by show 32 ≤ 32; decide, by show 32 ≤ 131072; decide, rfl, rfl, fun _ => Or.inl rfl, fun k hk => by omega⟩
theorem c1_R5 : R5 (c1M 3) (c1M 13) (c1N 13) (c1a 5) (c1a 6) (c1a 18) := fun s _ =>
  ⟨rfl, by rw [c1_hc]; rfl, by show 32 ≤ 16400; decide, by show 0 < 32; decide, fun n _ => ⟨0, rfl, by omega, by omega, fun _ => rfl, fun _ => rfl⟩, fun n h1 h2 => rfl⟩
theorem c1_R8 : R8 (c1P 24) (c1N 24) (c1M 25) (c1a 33) (c1a 34) := by
  intro d hd
  refine ⟨rfl, fun v hv => ?_⟩
  rcases (show d = 0 ∨ d = 1 by omega) with rfl | rfl <;> rcases (show v = 0 ∨ v = 1 ∨ v = 2 by omega) with rfl | rfl | rfl <;> exact ⟨rfl, rfl, rfl, rfl⟩
theorem c1_5 (s z : Nat) {x : Nat} : c1P 5 s z ≤ x := by
  rw [c1P_0 (by decide)]
  exact Nat.zero_le _
theorem c1_R3 : R3 (c1M 4) (c1P 5) (c1M 6) (c1M 8) (c1N 5) (c1N 8) (c1C 6) (c1a 4) (c1a 11) (c1a 12) (c1a 13) (c1a 14) (c1a 15) (c1a 16) (c1a 17) (c1a 37) (c1a 39) (c1a 40) :=
  ⟨fun s _ => ⟨rfl, 0, rfl, by omega, Nat.zero_le _, by show 0 ≤ 12300; decide, fun z => c1_5 s z, fun i hi => absurd hi (Nat.not_lt_zero _)⟩, fun s s' i i' _ _ hi => absurd (show i < 0 from hi) (Nat.not_lt_zero _)⟩
theorem c1_R6 : R6 (c1M 4) (c1P 5) (c1N 5) (c1C 20) (c1M 20) (c1M 21) (c1a 0 22) (c1a 23) (c1a 24) (c1a 25) (c1a 26) (c1a 27) (c1a 28) (c1a 29) (c1a 30) :=
  ⟨rfl, 0, rfl, by omega, rfl, Nat.zero_le _, by show 0 ≤ 12300; decide, fun z => c1_5 2 z, fun o ho => absurd ho (Nat.not_lt_zero _)⟩
theorem c1_R7 : R7 (c1M 4) (c1P 5) (c1P 23) (c1N 5) (c1C 23) (c1M 23) (c1a 0 22) (c1a 0 35) (c1a 36) (c1a 37) (c1a 38) (c1a 39) (c1a 40) (c1a 41) (c1a 42) (c1a 43) :=
  ⟨rfl, 0, rfl, by omega, rfl, Nat.zero_le _, by show 0 ≤ 12300; decide, fun z => c1_5 5 z, fun o ho => absurd ho (Nat.not_lt_zero _)⟩
theorem c1_R9 : R9 (c1M 4) (c1P 5) (c1N 5) (c1C 20) (c1a 0 22) (c1a 0 32) (c1a 23) (c1a 24) (c1a 25) (c1a 31) := fun d _ =>
  ⟨0, rfl, by omega, Nat.zero_le _, by show 0 ≤ 12300; decide, fun z => c1_5 (3 + d) z, fun i hi => absurd hi (Nat.not_lt_zero _), fun o ho => absurd (show o < 0 from ho) (Nat.not_lt_zero _), fun i j _ hj => absurd hj (Nat.not_lt_zero _)⟩
theorem c1_RR : RR c1μ c1ν c1a :=
  ⟨by unfold R0; decide, c1_RF, ⟨rfl, rfl, rfl, Or.inl rfl⟩, c1_R2, c1_R3, c1_R4, c1_R5, c1_R6, c1_R7, c1_R8, c1_R9⟩
theorem c1_sv : sv c1a := by
  refine ⟨⟨0, rfl, by omega⟩, Or.inl rfl, fun s hs => ?_⟩
  have e5 : c1a 5 s = nI 1 := by rcases (show s = 0 ∨ s = 1 by omega) with rfl | rfl <;> rfl
  refine ⟨⟨0, rfl, by omega⟩, ⟨1, e5, by omega⟩, ⟨0, rfl, by omega⟩, fun k hk => ⟨0, ?_, by omega⟩, ⟨0, rfl, by omega⟩, ⟨0, rfl, by omega⟩, Or.inl rfl, fun _ => ⟨rfl, rfl, rfl⟩, fun h => absurd rfl h, fun n h1 h2 => ?_, fun n _ => ⟨0, rfl, by omega, by omega⟩⟩
  · rcases hk with rfl | rfl | rfl <;> rfl
  · have : n ≤ 0 := h2
    omega
theorem c1_SI : SI (fun _ => 0) 0 0 0 0 c1a := by
  refine ⟨c1_sv, fun _ => [[]], fun _ => 0, fun _ => 0, fun _ => [], fun _ => 1, fun Y hY => ?_, ?_⟩
  · have e5 : tn (c1a 5 Y) = 1 := by rcases (show Y = 0 ∨ Y = 1 by omega) with rfl | rfl <;> rfl
    have eQ : ∀ t, QL c1a t = [] := fun t => QL_nil rfl
    have hh : ∀ n, hN c1a Y n = 0 := fun n => by
      unfold hN
      split <;> rfl
    have el : lgN c1a (1 - Y) = 0 := rfl
    have e7 : tn (c1a 7 Y) = 0 := rfl
    have er : rsN c1a Y = 0 := by
      unfold rsN
      rw [eQ]
      rfl
    refine ⟨?_, ?_, fun _ => ⟨hh, e5.symm⟩⟩
    · rw [eQ, e5, el, e7, er]
      refine ⟨rfl, by simp, ⟨Nat.zero_le _, trivial⟩, fun l hl => ?_, fun c hc => absurd hc (List.not_mem_nil), trivial, ?_, fun _ h => absurd h (by decide), ?_, ?_⟩
      · have : l = [] := by simpa using hl
        subst this
        trivial
      · show 1 + 0 + (if (0 : Nat) = 1 ∨ (0 : Nat) ≠ 1 then 1 else 0) ≤ 2 + 0
        rw [if_pos (Or.inr (by decide))]
        exact Nat.le_refl _
      · have : ¬ (icN 0 Y = 2 ∨ tn (c1a 8 Y) < tn (c1a 0 1)) := by
          unfold icN
          rw [if_neg (by omega), if_neg (by omega)]
          intro h
          rcases h with h | h
          · omega
          · exact absurd (show (0 : Nat) < 0 from h) (Nat.lt_irrefl 0)
        rw [if_neg this]
        exact Nat.le_refl _
      · have : ¬ (icN 0 Y = 1 ∧ tn (c1a 8 Y) < tn (c1a 0 1)) := fun h => absurd (show (0 : Nat) < 0 from h.2) (Nat.lt_irrefl 0)
        rw [if_neg this]
        exact Nat.le_refl _
    · rw [eQ, e5, el, e7]
      exact DK_new hh (by omega) (by omega)
  · have eQ : ∀ t, QL c1a t = [] := fun t => QL_nil rfl
    have eg : ∀ t, gqN c1a t [] = 0 := fun t => by
      unfold gqN
      rw [eQ]
      rfl
    refine ⟨?_, ?_, ?_, ?_⟩
    · unfold VH
      rw [eg]
      decide
    · unfold VT
      rw [eg]
      decide
    · decide
    · decide
theorem c1_MI : MI 0 0 0 0 c1a := by
  have e4 : ∀ s, tn (c1a 4 s) = 0 := fun s => rfl
  refine ⟨⟨rfl, by omega, rfl, by omega, rfl⟩, fun o _ => ⟨0, 0, 0, by omega, by omega, rfl, rfl, rfl, rfl, fun _ => ⟨rfl, rfl⟩⟩, fun o _ => rfl, ⟨fun o ho => by omega, fun o _ h => absurd rfl h⟩, fun e he => by omega, fun e _ _ => ⟨rfl, rfl, rfl, rfl, rfl, rfl, rfl⟩, fun q _ => ⟨⟨0, by omega, rfl⟩, 0, by omega, rfl⟩, fun o _ _ => ⟨rfl, rfl, rfl, rfl, rfl, rfl, rfl, rfl, rfl, rfl⟩, fun s n _ h1 hn => ?_, ⟨fun n f t e h1 hn _ _ _ => rfl, fun n e h1 hn _ => rfl⟩, ⟨fun n n' f t f' t' h1 hn hn' => ?_, fun n n' e h1 hn hn' => ?_⟩, Nat.le_refl _⟩
  · rw [e4] at hn; omega
  · rw [e4] at hn'; omega
  · rw [e4] at hn'; omega
theorem c1_KA : KA (fun _ => 0) 0 0 c1a :=
  ⟨c1_SI, fun s _ h => absurd rfl h, fun s _ i _ => by
    unfold hN
    split <;> rfl, ⟨0, 0, c1_MI⟩, Nat.le_refl _⟩
theorem c1_KB : KB 0 0 0 ((c1μ, c1ν), c1a) :=
  ⟨fun _ => 0, 0, 0, Nat.le_refl _, c1_KA, c1_RR, by show bal c1ν c1a ≤ 0; decide, by show RC 0 0 c1ν; unfold RC; decide⟩
