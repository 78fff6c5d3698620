/-! A call begins, a call ends. -/
def nb (n : Nat → Nat) (i j : Nat) : Nat := if j = i then n j + 1 else n j
theorem nb_le (n : Nat → Nat) (i j : Nat) : n j ≤ nb n i j := by
  unfold nb
  split <;> omega
theorem vB_mono {n n' : Nat → Nat} (h : ∀ j, n j ≤ n' j) (Y : Nat) : vB n Y ≤ vB n' Y := by
  have := h 0
  have := h 1
  have := h 2
  have := h 3
  have := h 4
  have := h 5
  have := h 6
  have := h 7
  unfold vB bH bA bS
  split <;> omega
theorem SI_call {n n' : Nat → Nat} {fl fl' rem rem' l0 l1 l0' l1' : Nat} {a : AS} (hn : ∀ j, n j ≤ n' j) (h1 : ∀ Y, Y < 2 → icN fl' Y = 1 → icN fl Y = 1 ∨ n (1 + Y) + 1 ≤ n' (1 + Y)) (h2 : ∀ Y, Y < 2 → icN fl' Y = 2 → icN fl Y = 2 ∨ n 0 + 1 ≤ n' 0) (hpot : ∀ gG, pot n fl rem l0 l1 a gG → pot n' fl' rem' l0' l1' a gG) (h : SI n fl rem l0 l1 a) : SI n' fl' rem' l0' l1' a := by
  obtain ⟨hv, gL, gb, gt, gG, gz, hD, hp⟩ := h
  refine ⟨hv, gL, gb, gt, gG, gz, fun Y hY => ?_, hpot gG hp⟩
  obtain ⟨d1, d2, d3⟩ := hD Y hY
  exact ⟨DQ_calls (vB_mono hn Y) (hn 0) (hn (1 + Y)) (h1 Y hY) (h2 Y hY) d1, d2, d3⟩
theorem phX_02 (u o1 o0 dH eH dT q0 la v : Nat) : phX 2 u o1 o0 dH eH dT q0 la v ≤ phX 0 u o1 o0 dH eH dT q0 la v + 5 := by
  have e0 : phX 0 u o1 o0 dH eH dT q0 la v = phs u o1 o0 dH eH dT q0 la := if_neg (by decide)
  have e2 : phX 2 u o1 o0 dH eH dT q0 la v = (if o1 ≠ 0 ∧ dH = 0 then (if v = 1 then 3 else own 0 eH) + tst 0 dT + 1 else phs u o1 o0 dH eH dT q0 la + 5) := if_pos rfl
  rw [e0, e2]
  by_cases c : o1 ≠ 0 ∧ dH = 0
  · rw [if_pos c]
    unfold phs
    rw [if_pos c.1, c.2]
    split <;> omega
  · rw [if_neg c]
    exact Nat.le_refl _
theorem phX_20 (u o1 o0 dH eH dT q0 la v : Nat) : phX 0 u o1 o0 dH eH dT q0 la v ≤ phX 2 u o1 o0 dH eH dT q0 la v := by
  have e0 : phX 0 u o1 o0 dH eH dT q0 la v = phs u o1 o0 dH eH dT q0 la := if_neg (by decide)
  have e2 : phX 2 u o1 o0 dH eH dT q0 la v = (if o1 ≠ 0 ∧ dH = 0 then (if v = 1 then 3 else own 0 eH) + tst 0 dT + 1 else phs u o1 o0 dH eH dT q0 la + 5) := if_pos rfl
  rw [e0, e2]
  by_cases c : o1 ≠ 0 ∧ dH = 0
  · rw [if_pos c]
    unfold phs
    rw [if_pos c.1, c.2]
    have := own_0 eH
    split <;> omega
  · rw [if_neg c]
    exact Nat.le_add_right _ _
theorem phX_n2 {fl u o1 o0 dH eH dT q0 la v : Nat} (h : fl ≠ 2) : phX fl u o1 o0 dH eH dT q0 la v = phX 0 u o1 o0 dH eH dT q0 la v := by
  unfold phX
  rw [if_neg h, if_neg (by decide)]
/-- the flag goes up -/
theorem pot_up {fl : Nat} {a : AS} (G : List Nat) : VH fl a G ≤ VH 0 a G + (if fl = 2 then 5 else 0) ∧ VT fl a G ≤ VT 0 a G + 30 ∧ VS fl a ≤ VS 0 a + 1 := by
  refine ⟨?_, ?_, ?_⟩
  · have e : ∀ f, VH f a G = VHl a + VHp a + 4 * (unfN a + posN a) + (gqN a 1 G + etaN a 1) + phN f a := fun f => rfl
    rw [e, e]
    by_cases c : fl = 2
    · rw [if_pos c, c]
      have : phN 2 a ≤ phN 0 a + 5 := phX_02 _ _ _ _ _ _ _ _ _
      omega
    · rw [if_neg c]
      have : phN fl a = phN 0 a := phX_n2 c
      omega
  · have hl : lateN a 0 ≤ 1 := by unfold lateN; split <;> omega
    unfold VT
    have h1 : ∀ (p : Prop) [Decidable p], (if p then 1 else 0) ≤ 1 := fun p _ => by split <;> omega
    have x1 := h1 (fl = 1 ∨ quN a 10 0 < 15)
    have x2 := h1 (fl = 2 ∨ quN a 10 1 < 15)
    have x3 : (if fl = 1 then lateN a 0 else 0) ≤ 1 := by split <;> omega
    omega
  · unfold VS
    split <;> omega
/-- the flag goes down -/
theorem pot_dn {fl : Nat} {a : AS} (G : List Nat) : VH 0 a G ≤ VH fl a G ∧ VT 0 a G ≤ VT fl a G ∧ VS 0 a ≤ VS fl a := by
  refine ⟨?_, ?_, ?_⟩
  · have e : ∀ f, VH f a G = VHl a + VHp a + 4 * (unfN a + posN a) + (gqN a 1 G + etaN a 1) + phN f a := fun f => rfl
    rw [e, e]
    by_cases c : fl = 2
    · rw [c]
      have : phN 0 a ≤ phN 2 a := phX_20 _ _ _ _ _ _ _ _ _
      omega
    · have : phN fl a = phN 0 a := phX_n2 c
      omega
  · unfold VT
    have h1 : ∀ q : Nat, (if 0 = 1 ∨ q < 15 then 1 else 0) ≤ (if fl = 1 ∨ q < 15 then 1 else 0) := fun q => by
      by_cases c : q < 15
      · rw [if_pos (Or.inr c), if_pos (Or.inr c)]; exact Nat.le_refl _
      · rw [if_neg (by omega)]; exact Nat.zero_le _
    have h2 : ∀ q : Nat, (if 0 = 2 ∨ q < 15 then 1 else 0) ≤ (if fl = 2 ∨ q < 15 then 1 else 0) := fun q => by
      by_cases c : q < 15
      · rw [if_pos (Or.inr c), if_pos (Or.inr c)]; exact Nat.le_refl _
      · rw [if_neg (by omega)]; exact Nat.zero_le _
    have x1 := h1 (quN a 10 0)
    have x2 := h2 (quN a 10 1)
    rw [if_neg (show ¬ (0 : Nat) = 1 by decide)]
    omega
  · unfold VS
    have : (if (0 = 1 ∨ 0 = 3 ∨ 0 = 4) ∧ (lgN a 0 = 0 ∨ 5 ≤ kF a 0 (lgN a 0)) then 1 else 0) = 0 := if_neg (fun h => by omega)
    omega
theorem SI_end {n : Nat → Nat} {fl rem l0 l1 : Nat} {a : AS} (h : SI n fl rem l0 l1 a) : SI n 0 0 l0 l1 a := by
  refine SI_call (fun j => Nat.le_refl _) (fun Y hY e => ?_) (fun Y hY e => ?_) (fun gG hp => ?_) h
  · unfold icN at e
    rw [if_neg (fun h => by omega), if_neg (by decide)] at e
    omega
  · unfold icN at e
    rw [if_neg (fun h => by omega), if_neg (by decide)] at e
    omega
  · obtain ⟨p1, p2, p3, p4⟩ := hp
    have x1 := (pot_dn (fl := fl) (a := a) (gG 1)).1
    have x2 := (pot_dn (fl := fl) (a := a) (gG 0)).2.1
    have x3 := (pot_dn (fl := fl) (a := a) (gG 0)).2.2
    exact ⟨by omega, by omega, by omega, p4⟩
theorem VT_03 {fl : Nat} {a : AS} {G : List Nat} (h1 : fl ≠ 1) (h2 : fl ≠ 2) : VT fl a G ≤ VT 0 a G := by
  unfold VT
  have e1 : ∀ q : Nat, (if fl = 1 ∨ q < 15 then 1 else 0) ≤ (if 0 = 1 ∨ q < 15 then 1 else 0) := fun q => by
    by_cases c : q < 15
    · rw [if_pos (Or.inr c), if_pos (Or.inr c)]; exact Nat.le_refl _
    · rw [if_neg (fun h => h.elim h1 c)]; exact Nat.zero_le _
  have e2 : ∀ q : Nat, (if fl = 2 ∨ q < 15 then 1 else 0) ≤ (if 0 = 2 ∨ q < 15 then 1 else 0) := fun q => by
    by_cases c : q < 15
    · rw [if_pos (Or.inr c), if_pos (Or.inr c)]; exact Nat.le_refl _
    · rw [if_neg (fun h => h.elim h2 c)]; exact Nat.zero_le _
  have x1 := e1 (quN a 10 0)
  have x2 := e2 (quN a 10 1)
  rw [if_neg h1]
  omega
theorem SI_bPass {n : Nat → Nat} {l0 l1 t : Nat} {a : AS} (ht : t ≤ 50) (h : SI n 0 0 l0 l1 a) : SI (nb n 0) 3 t l0 l1 a := by
  refine SI_call (nb_le n 0) (fun Y hY e => ?_) (fun Y hY e => Or.inr (Nat.le_refl _)) (fun gG hp => ?_) h
  · unfold icN at e
    rw [if_neg (fun h => by omega), if_pos rfl] at e
    omega
  · obtain ⟨p1, p2, p3, p4⟩ := hp
    have x1 : VH 3 a (gG 1) = VH 0 a (gG 1) := rfl
    have x2 : VT 3 a (gG 0) ≤ VT 0 a (gG 0) := VT_03 (by decide) (by decide)
    have x3 := (pot_up (fl := 3) (a := a) (gG 0)).2.2
    have e1 : bH (nb n 0) = bH n := rfl
    have e2 : bT (nb n 0) = 50 * (n 0 + 1 + n 1 + n 2 + n 3 + n 4 + n 5 + n 7) + 20 := rfl
    have e3 : bS (nb n 0) = n 0 + 1 + n 1 + n 7 := rfl
    have e4 : bA (nb n 0) = bA n := rfl
    have e5 : bT n = 50 * (n 0 + n 1 + n 2 + n 3 + n 4 + n 5 + n 7) + 20 := rfl
    have e6 : bS n = n 0 + n 1 + n 7 := rfl
    exact ⟨by omega, by omega, by omega, by omega⟩
theorem SI_bCome {n : Nat → Nat} {l0 l1 s : Nat} {a : AS} (hs : s < 2) (h : SI n 0 0 l0 l1 a) : SI (nb n (1 + s)) (1 + s) 0 l0 l1 a := by
  refine SI_call (nb_le n _) (fun Y hY e => Or.inr ?_) (fun Y hY e => ?_) (fun gG hp => ?_) h
  · unfold icN at e
    by_cases c : Y = s
    · subst c
      unfold nb
      rw [if_pos rfl]
      exact Nat.le_refl _
    · rw [if_neg (fun h => by omega), if_neg (by omega)] at e
      omega
  · unfold icN at e
    split at e
    · omega
    · rw [if_neg (by omega)] at e
      omega
  · obtain ⟨p1, p2, p3, p4⟩ := hp
    have e5 : bT n = 50 * (n 0 + n 1 + n 2 + n 3 + n 4 + n 5 + n 7) + 20 := rfl
    have e6 : bS n = n 0 + n 1 + n 7 := rfl
    have e7 : bH n = 5 * (n 2 + n 3 + n 4 + n 5 + n 6 + n 7) + 4 * n 4 := rfl
    rcases (show s = 0 ∨ s = 1 by omega) with rfl | rfl
    · show pot (nb n 1) 1 0 l0 l1 a gG
      have x1 := (pot_up (fl := 1) (a := a) (gG 1)).1
      have x2 := (pot_up (fl := 1) (a := a) (gG 0)).2.1
      have x3 := (pot_up (fl := 1) (a := a) (gG 0)).2.2
      have e1 : bH (nb n 1) = bH n := rfl
      have e2 : bT (nb n 1) = 50 * (n 0 + (n 1 + 1) + n 2 + n 3 + n 4 + n 5 + n 7) + 20 := rfl
      have e3 : bS (nb n 1) = n 0 + (n 1 + 1) + n 7 := rfl
      have e4 : bA (nb n 1) = bA n := rfl
      rw [if_neg (by decide)] at x1
      exact ⟨by omega, by omega, by omega, by omega⟩
    · show pot (nb n 2) 2 0 l0 l1 a gG
      have x1 := (pot_up (fl := 2) (a := a) (gG 1)).1
      have x2 := (pot_up (fl := 2) (a := a) (gG 0)).2.1
      have e1 : bH (nb n 2) = 5 * (n 2 + 1 + n 3 + n 4 + n 5 + n 6 + n 7) + 4 * n 4 := rfl
      have e2 : bT (nb n 2) = 50 * (n 0 + n 1 + (n 2 + 1) + n 3 + n 4 + n 5 + n 7) + 20 := rfl
      have e3 : bS (nb n 2) = bS n := rfl
      have e4 : bA (nb n 2) = bA n := rfl
      have x4 : VS 2 a = VS 0 a := rfl
      rw [if_pos rfl] at x1
      exact ⟨by omega, by omega, by omega, by omega⟩
theorem SI_bCon {n : Nat → Nat} {l0 l1 : Nat} {a : AS} (h : SI n 0 0 l0 l1 a) : SI (nb n 7) 4 0 (l0 + 5) (l1 + 5) a := by
  refine SI_call (nb_le n _) (fun Y hY e => ?_) (fun Y hY e => ?_) (fun gG hp => ?_) h
  · unfold icN at e
    rw [if_neg (fun h => by omega), if_neg (by decide)] at e
    omega
  · unfold icN at e
    rw [if_neg (fun h => by omega), if_neg (by decide)] at e
    omega
  · obtain ⟨p1, p2, p3, p4⟩ := hp
    have x1 : VH 4 a (gG 1) = VH 0 a (gG 1) := rfl
    have x2 : VT 4 a (gG 0) ≤ VT 0 a (gG 0) := VT_03 (by decide) (by decide)
    have x3 := (pot_up (fl := 4) (a := a) (gG 0)).2.2
    have e5 : bT n = 50 * (n 0 + n 1 + n 2 + n 3 + n 4 + n 5 + n 7) + 20 := rfl
    have e6 : bS n = n 0 + n 1 + n 7 := rfl
    have e7 : bH n = 5 * (n 2 + n 3 + n 4 + n 5 + n 6 + n 7) + 4 * n 4 := rfl
    have e1 : bH (nb n 7) = 5 * (n 2 + n 3 + n 4 + n 5 + n 6 + (n 7 + 1)) + 4 * n 4 := rfl
    have e2 : bT (nb n 7) = 50 * (n 0 + n 1 + n 2 + n 3 + n 4 + n 5 + (n 7 + 1)) + 20 := rfl
    have e3 : bS (nb n 7) = n 0 + n 1 + (n 7 + 1) := rfl
    have e4 : bA (nb n 7) = bA n := rfl
    exact ⟨by omega, by omega, by omega, by omega⟩
/-- a call that is neither pass nor come nor connect -/
theorem SI_bN {n : Nat → Nat} {l0 l1 i : Nat} {a : AS} (hi : 3 ≤ i) (hi6 : i ≤ 6) (h : SI n 0 0 l0 l1 a) : SI (nb n i) 0 0 (l0 + if i = 6 then 0 else 5) (l1 + if i = 4 then 9 else 5) a ∧ (i = 4 ∨ i = 5 → VA a + 1 ≤ bA (nb n i)) := by
  have e5 : bT n = 50 * (n 0 + n 1 + n 2 + n 3 + n 4 + n 5 + n 7) + 20 := rfl
  have e6 : bA n = n 4 + n 5 := rfl
  have e7 : bH n = 5 * (n 2 + n 3 + n 4 + n 5 + n 6 + n 7) + 4 * n 4 := rfl
  have hb : bH (nb n i) = bH n + (if i = 4 then 9 else 5) ∧ bT (nb n i) = bT n + 10 * (if i = 6 then 0 else 5) ∧ bS (nb n i) = bS n ∧ bA (nb n i) = bA n + (if i = 4 ∨ i = 5 then 1 else 0) := by
    rcases (show i = 3 ∨ i = 4 ∨ i = 5 ∨ i = 6 by omega) with rfl | rfl | rfl | rfl
    · have e1 : bH (nb n 3) = 5 * (n 2 + (n 3 + 1) + n 4 + n 5 + n 6 + n 7) + 4 * n 4 := rfl
      have e2 : bT (nb n 3) = 50 * (n 0 + n 1 + n 2 + (n 3 + 1) + n 4 + n 5 + n 7) + 20 := rfl
      exact ⟨by rw [if_neg (by decide)]; omega, by rw [if_neg (by decide)]; omega, rfl, rfl⟩
    · have e1 : bH (nb n 4) = 5 * (n 2 + n 3 + (n 4 + 1) + n 5 + n 6 + n 7) + 4 * (n 4 + 1) := rfl
      have e2 : bT (nb n 4) = 50 * (n 0 + n 1 + n 2 + n 3 + (n 4 + 1) + n 5 + n 7) + 20 := rfl
      have e3 : bA (nb n 4) = n 4 + 1 + n 5 := rfl
      exact ⟨by rw [if_pos rfl]; omega, by rw [if_neg (by decide)]; omega, rfl, by rw [if_pos (Or.inl rfl)]; omega⟩
    · have e1 : bH (nb n 5) = 5 * (n 2 + n 3 + n 4 + (n 5 + 1) + n 6 + n 7) + 4 * n 4 := rfl
      have e2 : bT (nb n 5) = 50 * (n 0 + n 1 + n 2 + n 3 + n 4 + (n 5 + 1) + n 7) + 20 := rfl
      have e3 : bA (nb n 5) = n 4 + (n 5 + 1) := rfl
      exact ⟨by rw [if_neg (by decide)]; omega, by rw [if_neg (by decide)]; omega, rfl, by rw [if_pos (Or.inr rfl)]; omega⟩
    · have e1 : bH (nb n 6) = 5 * (n 2 + n 3 + n 4 + n 5 + (n 6 + 1) + n 7) + 4 * n 4 := rfl
      exact ⟨by rw [if_neg (by decide)]; omega, by rw [if_pos rfl]; rfl, rfl, rfl⟩
  obtain ⟨b1, b2, b3, b4⟩ := hb
  refine ⟨SI_call (nb_le n _) (fun Y hY e => Or.inl e) (fun Y hY e => Or.inl e) (fun gG hp => ?_) h, fun hc => ?_⟩
  · obtain ⟨p1, p2, p3, p4⟩ := hp
    exact ⟨by omega, by omega, by omega, by omega⟩
  · obtain ⟨-, gL, gb, gt, gG, gz, hD, p1, p2, p3, p4⟩ := h
    rw [b4, if_pos hc]
    omega
