/-! THE RELATION of the class's registers (μ, ν) to the reference's (a), in groups; each group speaks of rows, so what doesn't touch its rows keeps it as it stands. -/
def R0 (ν : NC) : Prop := 0 < ν.2 0 ∧ 2 ≤ ν.2 1 ∧ 2 ≤ ν.2 2 ∧ 2 ≤ ν.2 3 ∧ 6 ≤ ν.2 4 ∧ 6 ≤ ν.2 5 ∧ 2 ≤ ν.2 10 ∧ 2 ≤ ν.2 11 ∧ 2 ≤ ν.2 12 ∧ 2 ≤ ν.2 13 ∧ 2 ≤ ν.2 24 ∧ 6 ≤ ν.2 25 ∧ 0 < ν.2 30 ∧ ν.1 30 0 = 0 ∧ 0 < ν.2 31 ∧ ν.1 31 0 = 0 ∧ ν.2 6 = ν.2 8 ∧ ν.2 21 = 2 * ν.2 20
def R1 (m0 : Nat → Int32) (u t d : Int32) : Prop := m0 8 = u ∧ m0 9 = t ∧ m0 10 = d ∧ (u = nI 0 ∨ u = nI 1)
def R2 (u : Int32) (m1 : Nat → Nat → Int32) (b3 b5 b7 b8 b9 b10 : Nat → Int32) : Prop := ∀ s : Nat, s < 2 → m1 s 3 = b3 s ∧ m1 s 4 = b5 s ∧ m1 s 5 = b7 s ∧ m1 s 6 = b8 s ∧ m1 s 8 = b10 s ∧ (u ≠ nI 0 → m1 s 7 = b9 s) ∧ (b3 s = nI 0 ∨ b3 s = nI 1) ∧ ∃ e : Nat, b5 s = nI e ∧ 1 ≤ e ∧ e ≤ 8191
/-- the fields of a message between its number and its sum -/
def bodyR (b11 b14 b15 b16 b17 b37 b39 b40 : Nat → Int32) (q nb : Nat) (fb : Nat → Int32) : Prop :=
  ((b11 q = nI 0 ∨ b11 q = nI 1 ∨ b11 q = nI 2) ∧ nb = 0) ∨
  (b11 q = nI 3 ∧ nb = 2 ∧ fb 0 = nI 7 ∧ fb 1 = b14 q) ∨
  (b11 q = nI 5 ∧ nb = 8 ∧ fb 0 = nI 11 ∧ fb 1 = b14 q ∧ fb 2 = nI 54 ∧ fb 3 = b15 q ∧ fb 4 = nI 44 ∧ fb 5 = b16 q ∧ fb 6 = nI 38 ∧ fb 7 = b17 q) ∨
  (b11 q = nI 6 ∧ nb = 2 ∧ fb 0 = nI 41 ∧ fb 1 = b14 q) ∨
  (b11 q = nI 7 ∧ nb = 6 ∧ fb 0 = nI 41 ∧ fb 1 = b14 q ∧ fb 2 = nI 44 ∧ fb 3 = b15 q ∧ fb 4 = nI 38 ∧ fb 5 = b16 q) ∨
  (b11 q = nI 8 ∧ fb 0 = nI 150 ∧ fb 1 = b14 q ∧ fb 2 = nI 37 ∧ fb 3 = b15 q ∧ (
    ((b14 q = nI 0 ∨ b14 q = nI 4) ∧ nb = 4) ∨
    (b14 q = nI 1 ∧ ∃ f t : Nat, b16 q = nI f ∧ b17 q = nI t ∧ f + t ≤ 100 ∧ nb = 6 + 8 * t ∧ fb 4 = nI 382 ∧ fb 5 = nI t ∧ ∀ i, i < t → fb (6 + 8 * i) = nI 17 ∧ fb (7 + 8 * i) = nI (f + i) ∧ fb (8 + 8 * i) = nI 30 ∧ fb (9 + 8 * i) = b37 (f + i) ∧ fb (10 + 8 * i) = nI 31 ∧ fb (11 + 8 * i) = b40 (f + i) ∧ fb (12 + 8 * i) = nI 32 ∧ fb (13 + 8 * i) = b39 (f + i)) ∨
    (b14 q = nI 2 ∧ nb = 6 ∧ fb 4 = nI 32 ∧ fb 5 = b16 q) ∨
    (b14 q = nI 3 ∧ nb = 8 ∧ fb 4 = nI 44 ∧ fb 5 = b16 q ∧ fb 6 = nI 38 ∧ fb 7 = b17 q) ∨
    (b14 q = nI 5 ∧ nb = 6 ∧ fb 4 = nI 17 ∧ fb 5 = b16 q) ∨
    (b14 q = nI 6 ∧ nb = 8 ∧ fb 4 = nI 17 ∧ fb 5 = b16 q ∧ fb 6 = nI 31 ∧ fb 7 = b17 q)))
def msgRel (r6 row : Nat → Int32) (len : Nat) (b11 b12 b13 b14 b15 b16 b17 b37 b39 b40 : Nat → Int32) (q n : Nat) : Prop :=
  r6 0 = b11 q ∧ r6 1 = b12 q ∧ r6 3 = b13 q ∧ ∃ (nb : Nat) (fb : Nat → Int32), len = nb + 6 ∧ nb ≤ 806 ∧ (∀ j, j < nb + 6 → row j = msgF (b11 q) (nI n) nb fb j) ∧ bodyR b11 b14 b15 b16 b17 b37 b39 b40 q nb fb
def R3 (m4 : Nat → Nat → Int32) (p5 : Nat → Nat → Nat) (m6 m8 : Nat → Nat → Int32) (l5 l8 : Nat → Nat) (n6 : Nat) (b4 b11 b12 b13 b14 b15 b16 b17 b37 b39 b40 : Nat → Int32) : Prop :=
  (∀ s : Nat, s < 2 → m4 s 2 = b4 s ∧ ∃ n : Nat, b4 s = nI n ∧ n ≤ 8190 ∧ n ≤ l5 s ∧ l5 s ≤ 12300 ∧ (∀ z, p5 s z ≤ n6) ∧ ∀ i, i < n → ∃ m : Nat, p5 s i = m + 1 ∧ m < n6 ∧ msgRel (m6 m) (m8 m) (l8 m) b11 b12 b13 b14 b15 b16 b17 b37 b39 b40 (8192 * s + (i + 1)) (i + 1)) ∧
  ∀ s s' i i' : Nat, s < 2 → s' < 2 → i < tn (b4 s) → i' < tn (b4 s') → p5 s i = p5 s' i' → s = s' ∧ i = i'
def wayR (w2 r10 r11 r12 : Nat → Int32) (l10 l11 l12 : Nat) (x19 x20 : Int32) (b21 : Nat → Int32) (t : Nat) : Prop :=
  ∃ h c H : Nat, w2 3 = nI h ∧ w2 4 = nI c ∧ x19 = nI H ∧ x20 = nI c ∧ H < 65536 ∧ c ≤ 65536 ∧ h < l10 ∧ c ≤ l10 ∧ 32 ≤ l10 ∧ l10 ≤ 131072 ∧ l11 = l10 ∧ l12 = l10 ∧ (∀ j, r12 j = 0 ∨ r12 j = 1) ∧
    ∀ k, k < c → ∃ x f g : Nat, x ≤ 8190 ∧ f ≤ 8191 ∧ f ≠ 1 ∧ g < 2 ∧ r10 (sl l10 h k) = nI x ∧ r11 (sl l10 h k) = (if f = 0 then nI 1 else nI f) ∧ r12 (sl l10 h k) = nI g ∧ b21 (65536 * t + (H + k) % 65536) = nI (2 * (8192 * x + f) + g)
def R4 (m2 m10 m11 m12 : Nat → Nat → Int32) (n10 n11 n12 : Nat → Nat) (b19 b20 b21 : Nat → Int32) : Prop := ∀ t : Nat, t < 2 → wayR (m2 t) (m10 t) (m11 t) (m12 t) (n10 t) (n11 t) (n12 t) (b19 t) (b20 t) b21 t
/-- how many of the first n places of a side hold something back -/
def hcnt (b18 : Nat → Int32) (s : Nat) : Nat → Nat
  | 0 => 0
  | n + 1 => hcnt b18 s n + (if b18 (8192 * s + n) = nI 0 then 0 else 1)
def hv (v : Nat) : Int32 := if v = 0 then nI 0 else if v = 1 then nI 1 else nI (v - 2)
def R5 (m3 m13 : Nat → Nat → Int32) (n13 : Nat → Nat) (b5 b6 b18 : Nat → Int32) : Prop := ∀ s : Nat, s < 2 → m3 s 1 = b6 s ∧ b6 s = nI (hcnt b18 s 8192) ∧ n13 s ≤ 16400 ∧ 0 < n13 s ∧ (∀ n, n < 8192 → ∃ v : Nat, b18 (8192 * s + n) = nI v ∧ (v ≤ 1 ∨ 4 ≤ v) ∧ v ≤ 8193 ∧ (n < n13 s → m13 s n = hv v) ∧ (n13 s ≤ n → v = 0)) ∧ ∀ n, 8192 ≤ n → n < n13 s → m13 s n = nI 0
def R6 (m4 : Nat → Nat → Int32) (p5 : Nat → Nat → Nat) (l5 : Nat → Nat) (n20 : Nat) (m20 m21 : Nat → Nat → Int32) (x22 : Int32) (b23 b24 b25 b26 b27 b28 b29 b30 : Nat → Int32) : Prop :=
  m4 2 2 = x22 ∧ ∃ k : Nat, x22 = nI k ∧ k ≤ 40 ∧ n20 = k ∧ k ≤ l5 2 ∧ l5 2 ≤ 12300 ∧ (∀ z, p5 2 z ≤ n20) ∧
    ∀ o, o < k → p5 2 o = o + 1 ∧ m20 o 0 = nI o ∧ m20 o 1 = b23 o ∧ (b23 o = nI 0 ∨ b23 o = nI 1) ∧ m20 o 4 = b24 o ∧ m20 o 5 = b29 o ∧ m20 o 6 = b24 (40 + o) ∧ m20 o 7 = b30 o ∧ ∀ z, z < 2 → m21 (2 * o + z) 0 = b25 (40 * z + o) ∧ m21 (2 * o + z) 1 = b26 (40 * z + o) ∧ m21 (2 * o + z) 2 = b27 (40 * z + o) ∧ m21 (2 * o + z) 3 = b28 (40 * z + o)
def R7 (m4 : Nat → Nat → Int32) (p5 p23 : Nat → Nat → Nat) (l5 : Nat → Nat) (n23 : Nat) (m23 : Nat → Nat → Int32) (x22 x35 : Int32) (b36 b37 b38 b39 b40 b41 b42 b43 : Nat → Int32) : Prop :=
  m4 5 2 = x35 ∧ ∃ k : Nat, x35 = nI k ∧ k ≤ 100 ∧ n23 = k ∧ k ≤ l5 5 ∧ l5 5 ≤ 12300 ∧ (∀ z, p5 5 z ≤ n23) ∧
    ∀ e, e < k → p5 5 e = e + 1 ∧ b36 e = nI (p23 e 0) ∧ p23 e 0 < tn x22 ∧ m23 e 1 = b37 e ∧ m23 e 2 = b39 e ∧ m23 e 3 = b38 e ∧ m23 e 4 = b41 (100 + e) ∧ m23 e 5 = b43 (100 + e) ∧ m23 e 6 = b42 e ∧ m23 e 7 = b41 e ∧ m23 e 8 = b43 e ∧ b42 (100 + e) = nI 1 ∧ ∃ v : Nat, b37 e = nI v ∧ v < 3
def R8 (p24 : Nat → Nat → Nat) (n24 : Nat → Nat) (m25 : Nat → Nat → Int32) (b33 b34 : Nat → Int32) : Prop := ∀ d : Nat, d < 2 → n24 d = 3 ∧ ∀ v, v < 3 → p24 d v = 3 * d + v + 1 ∧ m25 (3 * d + v) 0 = nI v ∧ m25 (3 * d + v) 1 = b33 (2 * v + d) ∧ m25 (3 * d + v) 2 = b34 (2 * v + d)
/-- whether order o comes ahead of o' in rank, both of a direction -/
def aheadR (b23 b25 b31 : Nat → Int32) (o o' : Nat) : Prop := (b25 (40 + o) = b25 (40 + o') ∧ b31 o < b31 o') ∨ (b25 (40 + o) ≠ b25 (40 + o') ∧ ((b23 o = nI 0 ∧ b25 (40 + o') < b25 (40 + o)) ∨ (b23 o ≠ nI 0 ∧ b25 (40 + o) < b25 (40 + o'))))
def R9 (m4 : Nat → Nat → Int32) (p5 : Nat → Nat → Nat) (l5 : Nat → Nat) (n20 : Nat) (x22 x32 : Int32) (b23 b24 b25 b31 : Nat → Int32) : Prop := ∀ d : Nat, d < 2 → ∃ k : Nat, m4 (3 + d) 2 = nI k ∧ k ≤ 40 ∧ k ≤ l5 (3 + d) ∧ l5 (3 + d) ≤ 12300 ∧ (∀ z, p5 (3 + d) z ≤ n20) ∧ (∀ i, i < k → ∃ o : Nat, p5 (3 + d) i = o + 1 ∧ o < tn x22 ∧ b24 (40 + o) ≠ nI 0 ∧ b23 o = nI d) ∧ (∀ o, o < tn x22 → b24 (40 + o) ≠ nI 0 → b23 o = nI d → ∃ i, i < k ∧ p5 (3 + d) i = o + 1) ∧ ∀ i j, i < j → j < k → aheadR b23 b25 b31 (p5 (3 + d) i - 1) (p5 (3 + d) j - 1)
def RF (p : Nat → Nat → Nat → Nat) (n : Nat → Nat) : Prop := ∀ κ, κ = 6 ∨ κ = 20 ∨ κ = 23 → ∀ k' i' j, (knd k' = 3 ∨ knd k' = 4) → eK k' i' = κ → p k' i' j ≤ n κ
/-- what class and reference have in common at each point -/
def RR (μ : MP) (ν : NC) (a : AS) : Prop :=
  R0 ν ∧ RF μ.2 ν.2 ∧ R1 (μ.1 0 0) (a 0 2) (a 0 1) (a 0 44) ∧ R2 (a 0 2) (μ.1 1) (a 3) (a 5) (a 7) (a 8) (a 9) (a 10) ∧
  R3 (μ.1 4) (μ.2 5) (μ.1 6) (μ.1 8) (ν.1 5) (ν.1 8) (ν.2 6) (a 4) (a 11) (a 12) (a 13) (a 14) (a 15) (a 16) (a 17) (a 37) (a 39) (a 40) ∧
  R4 (μ.1 2) (μ.1 10) (μ.1 11) (μ.1 12) (ν.1 10) (ν.1 11) (ν.1 12) (a 19) (a 20) (a 21) ∧
  R5 (μ.1 3) (μ.1 13) (ν.1 13) (a 5) (a 6) (a 18) ∧
  R6 (μ.1 4) (μ.2 5) (ν.1 5) (ν.2 20) (μ.1 20) (μ.1 21) (a 0 22) (a 23) (a 24) (a 25) (a 26) (a 27) (a 28) (a 29) (a 30) ∧
  R7 (μ.1 4) (μ.2 5) (μ.2 23) (ν.1 5) (ν.2 23) (μ.1 23) (a 0 22) (a 0 35) (a 36) (a 37) (a 38) (a 39) (a 40) (a 41) (a 42) (a 43) ∧
  R8 (μ.2 24) (ν.1 24) (μ.1 25) (a 33) (a 34) ∧
  R9 (μ.1 4) (μ.2 5) (ν.1 5) (ν.2 20) (a 0 22) (a 0 32) (a 23) (a 24) (a 25) (a 31)
theorem ltt {i n : Nat} (h : i < n) : ltB i n = true := decide_eq_true h
theorem nzs (k : Nat) : nzB (k + 1) = true := rfl
theorem eqs (k : Nat) : eqB k k = true := decide_eq_true rfl
theorem sl_inj {cap h i j : Nat} (hh : h < cap) (hi : i < cap) (hj : j < cap) (e : sl cap h i = sl cap h j) : i = j := by
  unfold sl at e
  split at e <;> split at e <;> omega
/-- a message goes onto the way: on both sides -/
theorem wayR_put {w2 r10 r11 r12 : Nat → Int32} {l10 l11 l12 : Nat} {x19 : Int32} {b21 : Nat → Int32} {t h c H x f : Nat} (hw2 : w2 3 = nI h) (hw4 : w2 4 = nI c) (h19 : x19 = nI H) (hH : H < 65536) (hc : c + 1 ≤ 65536) (hh : h < l10) (hcl : c < l10) (hl0 : 32 ≤ l10) (hl : l10 ≤ 131072) (h11 : l11 = l10) (h12 : l12 = l10) (h01 : ∀ j, r12 j = 0 ∨ r12 j = 1) (hx : x ≤ 8190) (hf : f ≤ 8191) (hf1 : f ≠ 1)
    (hk : ∀ k, k < c → ∃ x f g : Nat, x ≤ 8190 ∧ f ≤ 8191 ∧ f ≠ 1 ∧ g < 2 ∧ r10 (sl l10 h k) = nI x ∧ r11 (sl l10 h k) = (if f = 0 then nI 1 else nI f) ∧ r12 (sl l10 h k) = nI g ∧ b21 (65536 * t + (H + k) % 65536) = nI (2 * (8192 * x + f) + g)) :
    wayR (up1 w2 4 (nI (c + 1))) (up1 r10 (sl l10 h c) (nI x)) (up1 r11 (sl l10 h c) (if f = 0 then nI 1 else nI f)) (up1 r12 (sl l10 h c) 0) l10 l11 l12 x19 (nI (c + 1)) (up1 b21 (65536 * t + (H + c) % 65536) (nI (2 * (8192 * x + f)))) t := by
  refine ⟨h, c + 1, H, (up1_n _ _ (by decide)).trans hw2, up1_s _ _ _, h19, rfl, hH, hc, hh, hcl, hl0, hl, h11, h12, fun j => ?_, fun k hk' => ?_⟩
  · by_cases hj : j = sl l10 h c
    · subst hj; rw [up1_s]; exact Or.inl rfl
    · rw [up1_n _ _ hj]; exact h01 j
  · by_cases hkc : k = c
    · subst hkc
      exact ⟨x, f, 0, hx, hf, hf1, by decide, up1_s _ _ _, up1_s _ _ _, up1_s _ _ _, up1_s _ _ _⟩
    · obtain ⟨x', f', g', q1, q2, q3, q4, q5, q6, q7, q8⟩ := hk k (by omega)
      have hne : sl l10 h k ≠ sl l10 h c := fun e => hkc (sl_inj hh (by omega) hcl e)
      have hne2 : 65536 * t + (H + k) % 65536 ≠ 65536 * t + (H + c) % 65536 := by omega
      exact ⟨x', f', g', q1, q2, q3, q4, (up1_n _ _ hne).trans q5, (up1_n _ _ hne).trans q6, (up1_n _ _ hne).trans q7, (up1_n _ _ hne2).trans q8⟩
/-- what is counted of costs -/
def RC (c d : Int) (ν : NC) : Prop := (8 * kc ν : Int) ≤ 120 * (ν.2 6 + ν.2 20 + ν.2 23 : Nat) + (ν.1 10 0 + ν.1 10 1 : Nat) + 8 * (ν.1 13 0 + ν.1 13 1 : Nat) + 8 * (ν.1 5 0 + ν.1 5 1 + ν.1 5 2 + ν.1 5 3 + ν.1 5 4 + ν.1 5 5 : Nat) + c ∧ (ks ν : Int) ≤ 80 * (ν.2 6 + ν.2 20 : Nat) + 2000 * (ν.2 23 : Nat) + 6 * (ν.1 10 0 + ν.1 10 1 : Nat) + 2 * (ν.1 13 0 + ν.1 13 1 : Nat) + 5 * (ν.1 5 0 + ν.1 5 1 + ν.1 5 2 + ν.1 5 3 + ν.1 5 4 + ν.1 5 5 : Nat) + d
theorem nIb (n : Nat) (h : n < 2 ^ 31) : ¬ nI n < 0 := nI_pos h
theorem k_put {w : Nat} {μ : MP} {ν : NC} {b19 b20 b21 : Nat → Int32} {t x f c : Nat} (h0 : R0 ν) (h4 : R4 (μ.1 2) (μ.1 10) (μ.1 11) (μ.1 12) (ν.1 10) (ν.1 11) (ν.1 12) b19 b20 b21) (ht : t < 2) (e20 : b20 t = nI c) (hc : c + 1 ≤ 65536) (hx : x ≤ 8190) (hf : f ≤ 8191) (hf1 : f ≠ 1) :
    ∃ (μ' : MP) (ν' : NC), f_X7_put w μ ν t (nI x) (if f = 0 then nI 1 else nI f) = some ((μ', ν'), 0) ∧
      R4 (μ'.1 2) (μ'.1 10) (μ'.1 11) (μ'.1 12) (ν'.1 10) (ν'.1 11) (ν'.1 12) b19 (up1 b20 t (nI (c + 1))) (up1 b21 (65536 * t + (tn (b19 t) + c) % 65536) (nI (2 * (8192 * x + f)))) ∧
      μ'.2 = μ.2 ∧ (∀ k, k ≠ 2 → k ≠ 10 → k ≠ 11 → k ≠ 12 → μ'.1 k = μ.1 k) ∧ ν'.2 = ν.2 ∧ (∀ k, k ≠ 10 → k ≠ 11 → k ≠ 12 → k ≠ 98 → ν'.1 k = ν.1 k) ∧ ∀ c d, RC c d ν → RC c d ν' := by
  obtain ⟨h, c', H, hw3, hw4, h19, h20, hH, hc', hh, hcl, hl0, hl, h11, h12, h01, hk⟩ := h4 t ht
  have hcc : c' = c := (nI_eq (by omega) (by omega)).mp (h20.symm.trans e20)
  subst hcc
  obtain ⟨-, -, z2, -, -, -, z10, z11, z12, -⟩ := h0
  have etn : tn (b19 t) = H := by rw [h19, tnI (by omega)]
  have hwo : wayOk μ ν t := ⟨h11, h12, by rw [hw3]; exact nIb _ (by omega), by rw [hw4]; exact nIb _ (by omega), by rw [hw3, nI_clamp (by omega)]; exact hh, by rw [hw4, nI_clamp (by omega)]; exact hcl, by omega, by omega, by omega, by omega, by omega, h01⟩
  have c3 : (μ.1 2 t 3).toNatClampNeg = h := by rw [hw3, nI_clamp (by omega)]
  have c4 : (μ.1 2 t 4).toNatClampNeg = c' := by rw [hw4, nI_clamp (by omega)]
  unfold f_X7_put
  rw [if_pos hwo, c3, c4, etn]
  have hoth : ∀ (μ' : MP) (ν' : NC), (∀ s : Nat, s < 2 → s ≠ t → μ'.1 2 s = μ.1 2 s ∧ μ'.1 10 s = μ.1 10 s ∧ μ'.1 11 s = μ.1 11 s ∧ μ'.1 12 s = μ.1 12 s ∧ ν'.1 10 s = ν.1 10 s ∧ ν'.1 11 s = ν.1 11 s ∧ ν'.1 12 s = ν.1 12 s) → wayR (μ'.1 2 t) (μ'.1 10 t) (μ'.1 11 t) (μ'.1 12 t) (ν'.1 10 t) (ν'.1 11 t) (ν'.1 12 t) (b19 t) (nI (c' + 1)) (up1 b21 (65536 * t + (H + c') % 65536) (nI (2 * (8192 * x + f)))) t → R4 (μ'.1 2) (μ'.1 10) (μ'.1 11) (μ'.1 12) (ν'.1 10) (ν'.1 11) (ν'.1 12) b19 (up1 b20 t (nI (c' + 1))) (up1 b21 (65536 * t + (H + c') % 65536) (nI (2 * (8192 * x + f)))) := fun μ' ν' hs hw s hs2 => by
    by_cases hst : s = t
    · subst hst; rw [up1_s]; exact hw
    · obtain ⟨g1, g2, g3, g4, g5, g6, g7⟩ := hs s hs2 hst
      rw [g1, g2, g3, g4, g5, g6, g7, up1_n _ _ hst]
      obtain ⟨h', c'', H', y1, y2, y3, y4, y5, y6, y7, y8, y9, y10, y11, y12, y13, y14⟩ := h4 s hs2
      refine ⟨h', c'', H', y1, y2, y3, y4, y5, y6, y7, y8, y9, y10, y11, y12, y13, fun k hk => ?_⟩
      obtain ⟨x', f', g', q1, q2, q3, q4, q5, q6, q7, q8⟩ := y14 k hk
      exact ⟨x', f', g', q1, q2, q3, q4, q5, q6, q7, (up1_n _ _ (by omega)).trans q8⟩
  by_cases hfull : c' < ν.1 10 t
  · rw [if_pos hfull]
    refine ⟨_, _, rfl, hoth _ _ (fun s hs hst => ⟨?_, ?_, ?_, ?_, rfl, rfl, rfl⟩) ?_, rfl, fun k k1 k2 k3 k4 => ?_, rfl, fun _ _ _ _ _ => rfl, fun _ _ h => h⟩
    · simp (disch := omega) only [putM, uM, up3_n]
    · simp (disch := omega) only [putM, uM, up3_n]
    · simp (disch := omega) only [putM, uM, up3_n]
    · simp (disch := omega) only [putM, uM, up3_n]
    · have := wayR_put (b21 := b21) (t := t) (x := x) (f := f) hw3 hw4 h19 hH hc hh hfull hl0 hl h11 h12 h01 hx hf hf1 hk
      simp (disch := omega) only [putM, uM, up3_n, up3_s]
      exact this
    · simp (disch := omega) only [putM, uM, up3, up2, up1_n]
  · rw [if_neg hfull]
    have hcap : ν.1 10 t = c' := by omega
    rw [hcap]
    have hslk : ∀ k, k < c' → sl (2 * c') 0 k = k := fun k hk => by unfold sl; rw [if_pos (by omega)]; omega
    have hslc : sl (2 * c') 0 c' = c' := by unfold sl; rw [if_pos (by omega)]; omega
    refine ⟨_, _, rfl, hoth _ _ (fun s hs hst => ⟨?_, ?_, ?_, ?_, ?_, ?_, ?_⟩) ?_, rfl, fun k k1 k2 k3 k4 => ?_, rfl, fun k k1 k2 k3 k4 => ?_, ?_⟩
    · simp (disch := omega) only [putM, growM, uM, up3_n, up2_n]
    · simp (disch := omega) only [putM, growM, uM, up3_n, up2_n]
    · simp (disch := omega) only [putM, growM, uM, up3_n, up2_n]
    · simp (disch := omega) only [putM, growM, uM, up3_n, up2_n]
    · simp (disch := omega) only [growN, chg, up2_n]
    · simp (disch := omega) only [growN, chg, up2_n]
    · simp (disch := omega) only [growN, chg, up2_n]
    · have hk' : ∀ k, k < c' → ∃ x f g : Nat, x ≤ 8190 ∧ f ≤ 8191 ∧ f ≠ 1 ∧ g < 2 ∧ fa (μ.1 10 t) c' h c' (sl (2 * c') 0 k) = nI x ∧ fa (μ.1 11 t) c' h c' (sl (2 * c') 0 k) = (if f = 0 then nI 1 else nI f) ∧ fa (μ.1 12 t) c' h c' (sl (2 * c') 0 k) = nI g ∧ b21 (65536 * t + (H + k) % 65536) = nI (2 * (8192 * x + f) + g) := fun k hk0 => by
        rw [hslk k hk0]
        unfold fa
        rw [if_pos hk0, if_pos hk0, if_pos hk0]
        rw [hcap] at hk
        exact hk k hk0
      have h01' : ∀ j, fa (μ.1 12 t) c' h c' j = 0 ∨ fa (μ.1 12 t) c' h c' j = 1 := fun j => by
        unfold fa
        split
        · exact h01 _
        · exact Or.inl rfl
      have hw3' : up1 (up1 (μ.1 2 t) 3 0) 3 (0 : Int32) 3 = nI 0 := up1_s _ _ _
      have := wayR_put (w2 := up1 (μ.1 2 t) 3 (nI 0)) (r10 := fa (μ.1 10 t) c' h c') (r11 := fa (μ.1 11 t) c' h c') (r12 := fa (μ.1 12 t) c' h c') (l10 := 2 * c') (l11 := 2 * c') (l12 := 2 * c') (b21 := b21) (t := t) (x := x) (f := f) (h := 0) (up1_s _ _ _) ((up1_n _ _ (by decide)).trans hw4) h19 hH hc (by omega) (by omega) (by omega) (by omega) rfl rfl h01' hx hf hf1 hk'
      rw [hslc] at this
      simp (disch := omega) only [putM, growM, growN, chg, uM, up3_n, up3_s, up2_n, up2_s]
      exact this
    · simp (disch := omega) only [putM, growM, uM, up3, up2, up1_n]
    · simp (disch := omega) only [growN, chg, up2, up1_n]
    · intro cc dd hC
      obtain ⟨g1, g2⟩ := hC
      rcases (show t = 0 ∨ t = 1 by omega) with rfl | rfl
      · refine ⟨?_, ?_⟩
        · simp (disch := omega) only [kc, growN, chg, up2_n, up2_s] at g1 ⊢
          omega
        · simp (disch := omega) only [ks, growN, chg, up2_n, up2_s] at g2 ⊢
          omega
      · refine ⟨?_, ?_⟩
        · simp (disch := omega) only [kc, growN, chg, up2_n, up2_s] at g1 ⊢
          omega
        · simp (disch := omega) only [ks, growN, chg, up2_n, up2_s] at g2 ⊢
          omega
