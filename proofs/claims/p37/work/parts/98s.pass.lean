/-! All ticks of a pass. -/
theorem gWt_00 (x : AS) (s : Nat) : (gWt x s).1 0 0 = x 0 0 := by
  have h1 : ∀ y : AS × Nat, (gWt1 y s).1 0 0 = y.1 0 0 := fun y => by
    unfold gWt1
    split
    · rfl
    · exact congrFun (gSends_r _ _ _ _ _ _ _ 0 (by decide) (by decide) (by decide) (by decide) (by decide)) 0
  have h2 : ∀ y : AS × Nat, (gWt2 y s).1 0 0 = y.1 0 0 := fun y => by
    unfold gWt2
    split
    · exact congrFun (gSends_r _ _ _ _ _ _ _ 0 (by decide) (by decide) (by decide) (by decide) (by decide)) 0
    · rfl
  have h3 : ∀ y : AS × Nat, (gWt3 y s).1 0 0 = y.1 0 0 := fun y => by
    unfold gWt3
    split
    · rfl
    · show gDown y.1 0 0 = _
      rw [gDown_00, if_neg (by decide)]
  unfold gWt
  rw [h3, h2, h1]
theorem gTk1_00 (a : AS) : (gTk1 a).1 0 0 = a 0 0 := by
  unfold gTk1
  split
  · rfl
  · rw [gWt_00]; rfl
theorem gTk2_00 (a : AS) : (gTk2 a).1 0 0 = a 0 0 := by
  unfold gTk2
  split
  · exact gTk1_00 a
  · rw [gWt_00]; exact gTk1_00 a
theorem SI_rgo {n : Nat → Nat} {fl rem l0 l1 : Nat} {a : AS} (h : SI n fl rem l0 l1 a) (hn : sm8 n ≤ 512) (hO : n 4 ≤ 40) {s : Nat} (hs : s < 2) : ∃ n k, rgo a s n k ∧ n + 2 ≤ 8191 ∧ k ≤ 131070 := by
  obtain ⟨N, c, e4, h1, e20, h2⟩ := SI_roomS h hn hO hs (show 2 ≤ 1000 by decide)
  obtain ⟨-, -, -, -, ⟨x, e19, hx⟩, -⟩ := h.1.2.2 (1 - s) (by omega)
  exact ⟨N, c, ⟨e4, ⟨x, e19, hx⟩, e20⟩, by omega, by omega⟩
theorem SI_up {n : Nat → Nat} {fl rem l0 l1 : Nat} {a : AS} (h : SI n fl rem l0 l1 a) {s : Nat} (hs : s < 2) (h3 : a 3 s ≠ nI 0) : a 0 2 ≠ nI 0 := (h.1.2.2 s hs).2.2.2.2.2.2.2.2.1 h3
/-- what a tick wants -/
theorem SI_tickOk {n : Nat → Nat} {rem l0 l1 : Nat} {a : AS} (hn : sm8 n ≤ 512) (hO : n 4 ≤ 40) (h : SI n 3 (rem + 1) l0 l1 a) (hq : qt a) (hT : tn (a 0 1) < 30000) (h0 : a 0 0 = nI 0) : tickR a ∧ tickOk a := by
  obtain ⟨s0, s1, -⟩ := SI_tick1 hn hO h hq hT
  refine ⟨⟨fun h3 => ⟨SI_up s0 (by decide) h3, SI_roomS s0 hn hO (by decide) (by decide)⟩, fun h3 => ⟨SI_up s1 (by decide) h3, SI_roomS s1 hn hO (by decide) (by decide)⟩⟩, h0, (gTk1_00 a).trans h0, (gTk2_00 a).trans h0, SI_rgo s0 hn hO (by decide), SI_rgo s1 hn hO (by decide)⟩
theorem SI_pass {n : Nat → Nat} {l0 l1 : Nat} (hn : sm8 n ≤ 512) (hO : n 4 ≤ 40) : ∀ (i rem : Nat) (a : AS) (c : Nat), SI n 3 (rem + i) l0 l1 a → qt a → tn (a 0 1) + i ≤ 30000 → a 0 0 = nI 0 →
    SI n 3 rem l0 l1 (gTkL i a c).1 ∧ qt (gTkL i a c).1 ∧ tn ((gTkL i a c).1 0 1) = tn (a 0 1) + i ∧ (gTkL i a c).1 0 0 = nI 0 := by
  intro i
  induction i with
  | zero => exact fun rem a c h hq hT h0 => ⟨h, hq, rfl, h0⟩
  | succ i ih =>
    intro rem a c h hq hT h0
    obtain ⟨g1, g2, g3⟩ := SI_tick (rem := rem + i) hn hO h hq (by omega)
    have := ih rem (gTk2 a).1 (c + (gTk1 a).2 + (gTk2 a).2) g1 g2 (by omega) ((gTk2_00 a).trans h0)
    rw [g3] at this
    exact ⟨this.1, this.2.1, by rw [show gTkL (i + 1) a c = gTkL i (gTk2 a).1 (c + (gTk1 a).2 + (gTk2 a).2) from rfl, this.2.2.1]; omega, this.2.2.2⟩
/-- what o_pass asks -/
theorem SI_passOk {n : Nat → Nat} {t l0 l1 : Nat} {a : AS} (hn : sm8 n ≤ 512) (hO : n 4 ≤ 40) (h : SI n 3 t l0 l1 a) (hq : qt a) (hT : tn (a 0 1) + t ≤ 30000) (h0 : a 0 0 = nI 0) : ∀ i, i < t → ∀ c, tickR (gTkL i a c).1 ∧ tickOk (gTkL i a c).1 := fun i hi c => by
  obtain ⟨g1, g2, g3, g4⟩ := SI_pass hn hO i (t - i - 1 + 1) a c (by rw [show t - i - 1 + 1 + i = t by omega]; exact h) hq (by omega) h0
  exact SI_tickOk hn hO g1 g2 (by omega) g4
