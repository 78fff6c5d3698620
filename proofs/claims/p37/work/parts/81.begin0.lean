def c1T : List (Nat × Nat) := [(0, 0), (1, 0), (4, 0), (2, 0), (10, 0), (11, 0), (12, 0), (3, 0), (13, 0), (1, 1), (4, 1), (2, 1), (10, 1), (11, 1), (12, 1), (3, 1), (13, 1), (4, 2), (4, 3), (4, 4), (4, 5), (24, 0), (24, 1), (25, 0), (25, 3), (25, 1), (25, 4), (25, 2), (25, 5), (41, 0), (42, 0), (43, 0), (44, 0), (45, 0), (46, 0), (47, 0), (48, 0), (49, 0), (50, 0), (51, 0), (52, 0), (53, 0), (54, 0)]
def c1C : Nat → Nat := fun k => match k with
  | 0 => 1
  | 1 => 2
  | 2 => 2
  | 3 => 2
  | 4 => 6
  | 5 => 6
  | 10 => 2
  | 11 => 2
  | 12 => 2
  | 13 => 2
  | 24 => 2
  | 25 => 6
  | 30 => 1
  | 31 => 1
  | 41 => 1
  | 42 => 1
  | 43 => 1
  | 44 => 1
  | 45 => 1
  | 46 => 1
  | 47 => 1
  | 48 => 1
  | 49 => 1
  | 50 => 1
  | 51 => 1
  | 52 => 1
  | 53 => 1
  | 54 => 1
  | _ => 0
def c1N : Nat → Nat → Nat := fun k _ => match k with
  | 10 => 32
  | 11 => 32
  | 12 => 32
  | 13 => 32
  | 24 => 3
  | 41 => 22
  | 42 => 64
  | 43 => 64
  | 44 => 64
  | 45 => 64
  | 46 => 64
  | 47 => 64
  | 48 => 20
  | 49 => 20
  | 50 => 20
  | 51 => 20
  | 52 => 10
  | 53 => 60
  | 54 => 6
  | _ => 0
def c1p : Nat → Nat → Nat := fun k i => match k with
  | 0 => 0
  | 1 => (match i with | 0 => 1 | 1 => 9 | _ => 70)
  | 2 => (match i with | 0 => 3 | 1 => 11 | _ => 70)
  | 3 => (match i with | 0 => 7 | 1 => 15 | _ => 70)
  | 4 => (match i with | 0 => 2 | 1 => 10 | 2 => 17 | 3 => 18 | 4 => 19 | 5 => 20 | _ => 70)
  | 10 => (match i with | 0 => 4 | 1 => 12 | _ => 70)
  | 11 => (match i with | 0 => 5 | 1 => 13 | _ => 70)
  | 12 => (match i with | 0 => 6 | 1 => 14 | _ => 70)
  | 13 => (match i with | 0 => 8 | 1 => 16 | _ => 70)
  | 24 => (match i with | 0 => 21 | 1 => 22 | _ => 70)
  | 25 => (match i with | 0 => 23 | 1 => 25 | 2 => 27 | 3 => 24 | 4 => 26 | 5 => 28 | _ => 70)
  | 41 => 29
  | 42 => 30
  | 43 => 31
  | 44 => 32
  | 45 => 33
  | 46 => 34
  | 47 => 35
  | 48 => 36
  | 49 => 37
  | 50 => 38
  | 51 => 39
  | 52 => 40
  | 53 => 41
  | 54 => 42
  | _ => 70
def c1A (a30 a31 : Nat) (Lq : List Nat) : Nat → Nat → Nat := fun k i => match k with
  | 30 => a30
  | 31 => a31
  | _ => Lq.getD (c1p k i) 0
def c1M : Nat → Nat → Nat → Int32 := fun k i => match k with
  | 1 => up1 (fun _ => 0) 4 1
  | 25 => up1 (fun _ => 0) 0 (match i with | 0 => 0 | 1 => 1 | 2 => 2 | 3 => 0 | 4 => 1 | 5 => 2 | _ => 0)
  | _ => fun _ => 0
def c1P : Nat → Nat → Nat → Nat := fun k i => match k with
  | 24 => up1 (up1 (up1 (fun _ => 0) 0 (3 * i + 1)) 1 (3 * i + 2)) 2 (3 * i + 3)
  | _ => fun _ => 0
/-- the law's arrays at first -/
def z1a : AS := fun _ _ => 0
abbrev c1μ : MP := (c1M, c1P)
abbrev c1ν : NC := (c1N, c1C)
/-- before the law makes anything: the two statics' arrays -/
def c0C : Nat → Nat := fun k => match k with
  | 30 => 1
  | 31 => 1
  | _ => 0
def c0A (a30 a31 : Nat) : Nat → Nat → Nat := fun k _ => match k with
  | 30 => a30
  | 31 => a31
  | _ => 0
abbrev c0S (a30 a31 : Nat) : RS := zS (fun _ _ _ => 0, fun _ _ _ => 0) (fun _ _ => 0, c0C) (fun _ _ => 0) (c0A a30 a31)
theorem c1_lwI : lwI c1ν := ⟨by decide, by unfold rshN; decide⟩
theorem wld_bulk {D : va_G} {E : Nat → ClassId} {A : Nat → Prop} {σ σ' : RS} {ex : va_W} {H : Heap} (T : List (Nat × Nat)) (h : wld D E A σ ex H)
    (h1 : ∀ k i, live σ' k i → (live σ k i ∧ rA σ' k i = rA σ k i ∧ ct E σ' k i = ct E σ k i) ∨ ∃ j : Nat, T[j]? = some (k, i) ∧ ex[j]? = some (rA σ' k i, ct E σ' k i) ∧ A (rA σ' k i)) : wld D E A σ' [] H := by
  refine ⟨fun k i hl => ?_, fun k i k' i' hl hl' e => ?_, fun j q hq => ?_, fun i j p q hp hq _ => ?_⟩
  · rcases h1 k i hl with ⟨g1, g2, g3⟩ | ⟨j, -, g2, g3⟩
    · rw [g2, g3]; exact h.1 k i g1
    · exact ⟨vA.of (h.2.2.1 j _ g2).1, fun _ _ => g3⟩
  · rcases h1 k i hl with ⟨g1, g2, -⟩ | ⟨j, t1, g2, -⟩
    · rcases h1 k' i' hl' with ⟨f1, f2, -⟩ | ⟨j', t2, f2, -⟩
      · exact h.2.1 _ _ _ _ g1 f1 (by rw [← g2, ← f2]; exact e)
      · exact absurd (by rw [← g2]; exact e) ((h.2.2.1 j' _ f2).2 k i g1)
    · rcases h1 k' i' hl' with ⟨f1, f2, -⟩ | ⟨j', t2, f2, -⟩
      · exact absurd (by rw [← f2]; exact e.symm) ((h.2.2.1 j _ g2).2 k' i' f1)
      · have hj := h.2.2.2 _ _ _ _ g2 f2 e
        subst hj
        have := t1.symm.trans t2
        exact ⟨congrArg Prod.fst (Option.some.inj this), congrArg Prod.snd (Option.some.inj this)⟩
  · exact absurd hq (by simp)
  · exact absurd hp (by simp)
theorem c1_live : ∀ k, k < 91 → ∀ i, i < c1C k → k = 5 ∨ k = 30 ∨ k = 31 ∨ c1T[c1p k i]? = some (k, i) := by decide +kernel
theorem c1_out {k i : Nat} (h : i < c1C k) : k < 91 := by
  apply Classical.byContradiction
  intro hk
  unfold c1C at h
  split at h <;> omega
theorem q3_eq (f : Nat → Nat) (x y z : Nat) : (fun j => if up1 (up1 (up1 (fun _ => 0) 0 (x + 1)) 1 (y + 1)) 2 (z + 1) j = 0 then none else some (f (up1 (up1 (up1 (fun _ => 0) 0 (x + 1)) 1 (y + 1)) 2 (z + 1) j - 1))) = va_up (va_up (va_up (fun _ => none) 0 (some (f x))) 1 (some (f y))) 2 (some (f z)) := by
  funext j
  by_cases h2 : j = 2
  · subst h2; simp [up1, va_up]
  · by_cases h1 : j = 1
    · subst h1; simp [up1, va_up]
    · by_cases h0 : j = 0
      · subst h0; simp [up1, va_up]
      · simp [up1, va_up, h0, h1, h2]
