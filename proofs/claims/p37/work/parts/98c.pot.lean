/-! Potentials (BOUND.md, 4 to 6): own, tst; the last inequalities. -/
def own (d e : Nat) : Nat := if 15 ≤ d then 0 else 1 + (if d + max 1 (10 - e) ≤ 15 then 1 else 0) + (if d + max 1 (10 - e) + 10 ≤ 15 then 1 else 0)
def tst (d t : Nat) : Nat := (if (if t < 15 then 15 - t else 15) ≤ 25 - d then 1 else 0) + (if (if t < 15 then 15 - t else 15) + 15 ≤ 25 - d then 1 else 0)
theorem own_e {d e e' : Nat} (h : e' ≤ e) : own d e' ≤ own d e := by
  unfold own
  split
  · exact Nat.le_refl _
  · have h1 : max 1 (10 - e) ≤ max 1 (10 - e') := by omega
    have h2 : (if d + max 1 (10 - e') ≤ 15 then 1 else 0) ≤ (if d + max 1 (10 - e) ≤ 15 then 1 else 0) := by
      split
      · rw [if_pos (by omega)]; exact Nat.le_refl _
      · exact Nat.zero_le _
    have h3 : (if d + max 1 (10 - e') + 10 ≤ 15 then 1 else 0) ≤ (if d + max 1 (10 - e) + 10 ≤ 15 then 1 else 0) := by
      split
      · rw [if_pos (by omega)]; exact Nat.le_refl _
      · exact Nat.zero_le _
    omega
theorem own_0 (e : Nat) : own 0 e ≤ 3 := by
  unfold own
  rw [if_neg (by decide)]
  split <;> split <;> omega
theorem own_00 : own 0 0 = 2 := by decide
/-- a tick of a side that is on: what it sends is paid -/
theorem own_tick {d e : Nat} (hd : d + 1 ≤ 24) (he : 15 ≤ d → e + 15 ≤ d) : own (d + 1) (if 10 ≤ e + 1 ∨ d + 1 = 15 then 0 else e + 1) + (if 10 ≤ e + 1 then 1 else 0) + (if d + 1 = 15 then 1 else 0) ≤ own d e ∧ (15 ≤ d + 1 → (if 10 ≤ e + 1 ∨ d + 1 = 15 then 0 else e + 1) + 15 ≤ d + 1) := by
  by_cases c : 15 ≤ d
  · have := he c
    have e1 : own d e = 0 := by unfold own; rw [if_pos c]
    have e2 : ∀ x, own (d + 1) x = 0 := fun x => by unfold own; rw [if_pos (by omega)]
    rw [e1, e2, if_neg (show ¬ 10 ≤ e + 1 by omega), if_neg (show ¬ d + 1 = 15 by omega), if_neg (show ¬ (10 ≤ e + 1 ∨ d + 1 = 15) by omega)]
    exact ⟨Nat.le_refl _, fun _ => by omega⟩
  · by_cases c1 : d + 1 = 15
    · have e2 : ∀ x, own (d + 1) x = 0 := fun x => by unfold own; rw [if_pos (by omega)]
      rw [e2, if_pos c1, if_pos (Or.inr c1)]
      refine ⟨?_, fun _ => by omega⟩
      unfold own
      rw [if_neg c]
      by_cases c2 : 10 ≤ e + 1
      · rw [if_pos c2, if_pos (show d + max 1 (10 - e) ≤ 15 by omega)]
        omega
      · rw [if_neg c2]
        omega
    · rw [if_neg c1]
      refine ⟨?_, fun h => by omega⟩
      unfold own
      rw [if_neg c, if_neg (show ¬ 15 ≤ d + 1 by omega)]
      by_cases c2 : 10 ≤ e + 1
      · rw [if_pos c2, if_pos (show 10 ≤ e + 1 ∨ d + 1 = 15 from Or.inl c2), if_pos (show d + max 1 (10 - e) ≤ 15 by omega), if_neg (show ¬ d + 1 + max 1 (10 - 0) + 10 ≤ 15 by omega)]
        by_cases c3 : d + 1 + max 1 (10 - 0) ≤ 15
        · rw [if_pos c3, if_pos (show d + max 1 (10 - e) + 10 ≤ 15 by omega)]
          omega
        · rw [if_neg c3]
          omega
      · rw [if_neg c2, if_neg (show ¬ (10 ≤ e + 1 ∨ d + 1 = 15) by omega)]
        have e1 : d + 1 + max 1 (10 - (e + 1)) = d + max 1 (10 - e) := by omega
        rw [e1]
        omega
theorem tst_tick {d t : Nat} (hd : d ≤ 24) : tst (d + 1) (t + 1) + (if t + 1 = 15 then 1 else 0) ≤ tst d t := by
  unfold tst
  by_cases c : t + 1 = 15
  · have ht : t = 14 := by omega
    subst ht
    rw [if_pos c, if_neg (show ¬ 14 + 1 < 15 by decide), if_pos (show 14 < 15 by decide), if_neg (show ¬ 15 + 15 ≤ 25 - (d + 1) by omega), if_pos (show 15 - 14 ≤ 25 - d by omega)]
    by_cases c1 : 15 ≤ 25 - (d + 1)
    · rw [if_pos c1, if_pos (show 15 - 14 + 15 ≤ 25 - d by omega)]
      omega
    · rw [if_neg c1]
      omega
  · rw [if_neg c]
    by_cases c1 : t + 1 < 15
    · rw [if_pos c1, if_pos (show t < 15 by omega)]
      have e1 : (15 - (t + 1) ≤ 25 - (d + 1)) ↔ (15 - t ≤ 25 - d) := by omega
      have e2 : (15 - (t + 1) + 15 ≤ 25 - (d + 1)) ↔ (15 - t + 15 ≤ 25 - d) := by omega
      simp only [e1, e2]
      omega
    · rw [if_neg c1]
      have ht : ¬ t < 15 := by omega
      rw [if_neg ht]
      split <;> split <;> split <;> split <;> omega
theorem tst_t0 (d t : Nat) : tst d 0 ≤ tst d t := by
  unfold tst
  rw [if_pos (show 0 < 15 by decide)]
  have h : (if t < 15 then 15 - t else 15) ≤ 15 := by split <;> omega
  generalize (if t < 15 then 15 - t else 15) = f at h
  split <;> split <;> split <;> split <;> omega
theorem tst_0 (d t : Nat) : tst d t ≤ 2 := by
  unfold tst
  generalize (if t < 15 then 15 - t else 15) = f
  split <;> split <;> omega
/-- the phase of the house's potential -/
def phs (u o1 o0 dH eH dT q0 la : Nat) : Nat := if o1 ≠ 0 then own dH eH + tst dH dT + 1 else if u ≠ 0 then (if o0 ≠ 0 ∧ dT < 15 then 1 else 0) + q0 + (if la ≠ 0 then 1 else 2) else 0
/-- the last inequalities -/
theorem fin1 : ∀ x : Fin 273, (x.val + 5) * (2722 - 10 * x.val) ≤ 192100 := by decide +kernel
theorem fin2 : ∀ x : Fin 257, (x.val + 2) * (2049 - 6 * x.val) ≤ 177000 := by decide +kernel
theorem finH {P nP nT N nO tb u V lv : Nat} (hN : N ≤ 512) (hP : nP + nT ≤ N) (hO : nO ≤ 40) (hB : P ≤ 5 * (N - nP - nT) + 4 * nO) (h1 : tb ≤ nP) (h2 : tb ≤ nT) (hV : 3 * V ≤ P + 2) (hl : lv ≤ P) (hu : u ≤ tb + 2) : u * V + lv ≤ 64100 := by
  have ht : tb ≤ 256 := by omega
  have hP2 : P + 2 ≤ 2722 - 10 * tb := by omega
  have h3 : 3 * (u * V) ≤ (tb + 2) * (2722 - 10 * tb) := by
    rw [Nat.mul_left_comm]
    exact Nat.mul_le_mul hu (by omega)
  have h4 : (tb + 2) * (2722 - 10 * tb) + 3 * (2722 - 10 * tb) ≤ 192100 := by
    have := fin1 ⟨tb, by omega⟩
    have e : (tb + 2) * (2722 - 10 * tb) + 3 * (2722 - 10 * tb) = (tb + 5) * (2722 - 10 * tb) := by rw [← Nat.add_mul]
    rw [e]
    exact this
  omega
theorem finT {nP nT nH nC nA ap sr tb u V lv : Nat} (hN : nP + nT + nH + nC + nA ≤ 512) (ha : ap ≤ nA) (hs : sr ≤ nP + nT + nC) (h1 : tb ≤ nP) (h2 : tb ≤ nH) (hV : V ≤ ap + sr) (hV2 : V ≤ 2 * ap + 1) (hl : lv ≤ 3000) (hu : u ≤ tb + 2) : u * V + lv ≤ 62100 := by
  have ht : tb ≤ 256 := by omega
  have hV3 : 3 * V ≤ 2049 - 6 * tb := by omega
  have h3 : 3 * (u * V) ≤ (tb + 2) * (2049 - 6 * tb) := by
    rw [Nat.mul_left_comm]
    exact Nat.mul_le_mul hu hV3
  have h4 : (tb + 2) * (2049 - 6 * tb) ≤ 177000 := fin2 ⟨tb, by omega⟩
  omega
/-! Counts of what is pending in a log: numbers from E to S whose kind is such. -/
def pnd (p : Nat → Bool) (f : Nat → Nat) (E : Nat) : Nat → Nat
  | 0 => 0
  | S + 1 => pnd p f E S + (if E ≤ S + 1 ∧ p (f (S + 1)) = true then 1 else 0)
theorem pnd_congr {p : Nat → Bool} {f g : Nat → Nat} {E : Nat} : ∀ S, (∀ i, 1 ≤ i → i ≤ S → f i = g i) → pnd p f E S = pnd p g E S
  | 0, _ => rfl
  | S + 1, h => by
    show pnd p f E S + _ = pnd p g E S + _
    rw [pnd_congr S (fun i h1 h2 => h i h1 (by omega)), h (S + 1) (by omega) (by omega)]
theorem pnd_mono {p : Nat → Bool} {f : Nat → Nat} {E E' : Nat} (h : E ≤ E') : ∀ S, pnd p f E' S ≤ pnd p f E S
  | 0 => Nat.le_refl _
  | S + 1 => by
    show pnd p f E' S + _ ≤ pnd p f E S + _
    have := pnd_mono (p := p) (f := f) h S
    by_cases c : E' ≤ S + 1 ∧ p (f (S + 1)) = true
    · rw [if_pos c, if_pos ⟨by omega, c.2⟩]; omega
    · rw [if_neg c]; omega
theorem pnd_take {p : Nat → Bool} {f : Nat → Nat} {E E' : Nat} (hE : E < E') (h1 : 1 ≤ E) (hp : p (f E) = true) : ∀ S, E ≤ S → pnd p f E' S + 1 ≤ pnd p f E S
  | 0, h => by omega
  | S + 1, h => by
    show pnd p f E' S + _ + 1 ≤ pnd p f E S + _
    by_cases c : E = S + 1
    · have := pnd_mono (p := p) (f := f) (Nat.le_of_lt hE) S
      rw [if_neg (fun h => by omega), if_pos ⟨by omega, by rw [← c]; exact hp⟩]
      omega
    · have := pnd_take (p := p) (f := f) hE h1 hp S (by omega)
      by_cases c : E' ≤ S + 1 ∧ p (f (S + 1)) = true
      · rw [if_pos c, if_pos ⟨by omega, c.2⟩]; omega
      · rw [if_neg c]; omega
theorem pnd_le {p : Nat → Bool} {f : Nat → Nat} {E : Nat} : ∀ S, pnd p f E S ≤ S
  | 0 => Nat.le_refl _
  | S + 1 => by
    show pnd p f E S + _ ≤ S + 1
    have := pnd_le (p := p) (f := f) (E := E) S
    split <;> omega
