/-! The loops' hypotheses from SI. -/
theorem hdP_wi {n : Nat → Nat} {l0 l1 s S : Nat} {a : AS} (hs : s < 2) (h : hdP n l0 l1 s a) (hS : a 4 (1 - s) = nI S) (hS2 : S < 2 ^ 30) (hw : hN a s (tn (a 5 s)) = 1 → twOk (up2 (gHd0 a s) 5 s (nI (tn (a 5 s) + 1))) s (8192 * (1 - s) + tn (a 5 s))) : wiOk a s S := by
  obtain ⟨h1, hon, hA, hb⟩ := h
  obtain ⟨-, ⟨E, e5, hE⟩, -, -, -, -, -, -, -, -, v11⟩ := h1.1.2.2 s hs
  have eE : tn (a 5 s) = E := by rw [e5, tnI (by omega)]
  rw [eE] at hb hw hA
  obtain ⟨-, gL, gb, gt, gG, gz, hD, hp⟩ := id h1
  have hE1 : 1 ≤ E := by
    have := (hD s hs).2.1.1
    omega
  obtain ⟨v, ev, hv1, hv2⟩ := v11 E (by omega)
  have eh : hN a s E = v := by unfold hN; rw [if_pos (by omega), ev, tnI (by omega)]
  refine ⟨E, v, e5, hE1, hE, hS, fun i hi => ?_, ev, hv1, hv2, fun hv => ⟨?_, fun c => hw (by rw [eh]; exact c)⟩⟩
  · obtain ⟨x, ex, -, hx2⟩ := v11 i (by omega)
    have : hN a s i = 0 := Classical.byContradiction (fun c => by have := hb i c; omega)
    unfold hN at this
    rw [if_pos (by omega), ex, tnI (by omega)] at this
    rw [ex, this]
  · have := (SI_unh hs (by rw [eE, eh]; omega) (by rw [eE]; exact hA) hon h1).2.2
    unfold lgN at this
    rw [hS, tnI (by omega), eE] at this
    exact this
/-- what the turn leaves behind, and that it ends -/
theorem hdP_0 {n : Nat → Nat} {l0 l1 s : Nat} {a : AS} (hs : s < 2) (h : hdP n l0 l1 s a) : a 18 (8192 * s + tn (a 5 s)) ≤ nI 0 ↔ hN a s (tn (a 5 s)) = 0 := by
  obtain ⟨h1, -⟩ := h
  obtain ⟨-, ⟨E, e5, hE⟩, -, -, -, -, -, -, -, -, v11⟩ := h1.1.2.2 s hs
  have eE : tn (a 5 s) = E := by rw [e5, tnI (by omega)]
  obtain ⟨v, ev, hv1, hv2⟩ := v11 E (by omega)
  rw [eE]
  unfold hN
  rw [if_pos (by omega), ev, tnI (by omega)]
  constructor
  · intro h
    have := (nI_leI (by omega) (by decide)).mp h
    omega
  · intro h
    rw [h]
    decide
