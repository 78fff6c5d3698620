def c1T : List (Nat × Nat) := [(40, 0), (43, 0), (44, 0), (45, 0), (46, 0), (47, 0), (48, 0), (49, 0), (50, 0), (51, 0), (52, 0), (53, 0), (54, 0), (55, 0), (56, 0), (57, 0), (58, 0), (59, 0), (60, 0), (61, 0), (63, 0), (64, 0), (65, 0), (66, 0), (67, 0), (68, 0), (69, 0), (70, 0), (71, 0), (73, 0), (74, 0), (76, 0), (77, 0), (78, 0), (79, 0), (80, 0), (81, 0), (82, 0), (83, 0), (0, 0), (1, 0), (4, 0), (2, 0), (10, 0), (11, 0), (12, 0), (3, 0), (13, 0), (1, 1), (4, 1), (2, 1), (10, 1), (11, 1), (12, 1), (3, 1), (13, 1), (4, 2), (4, 3), (4, 4), (4, 5), (24, 0), (24, 1), (25, 0), (25, 3), (25, 1), (25, 4), (25, 2), (25, 5), (90, 0)]
def c1C : Nat → Nat := fun k => match k with
  | 0 => 1
  | 1 => 2
  | 2 => 2
  | 3 => 2
  | 4 => 6
  | 5 => 6
  | 10 => 2
  | 11 => 2
  | 12 => 2
  | 13 => 2
  | 24 => 2
  | 25 => 6
  | 30 => 1
  | 31 => 1
  | 40 => 1
  | 43 => 1
  | 44 => 1
  | 45 => 1
  | 46 => 1
  | 47 => 1
  | 48 => 1
  | 49 => 1
  | 50 => 1
  | 51 => 1
  | 52 => 1
  | 53 => 1
  | 54 => 1
  | 55 => 1
  | 56 => 1
  | 57 => 1
  | 58 => 1
  | 59 => 1
  | 60 => 1
  | 61 => 1
  | 63 => 1
  | 64 => 1
  | 65 => 1
  | 66 => 1
  | 67 => 1
  | 68 => 1
  | 69 => 1
  | 70 => 1
  | 71 => 1
  | 73 => 1
  | 74 => 1
  | 76 => 1
  | 77 => 1
  | 78 => 1
  | 79 => 1
  | 80 => 1
  | 81 => 1
  | 82 => 1
  | 83 => 1
  | 90 => 1
  | _ => 0
def c1N : Nat → Nat → Nat := fun k _ => match k with
  | 10 => 32
  | 11 => 32
  | 12 => 32
  | 13 => 32
  | 24 => 3
  | 43 => 2
  | 44 => 2
  | 45 => 2
  | 46 => 2
  | 47 => 2
  | 48 => 2
  | 49 => 2
  | 50 => 2
  | 51 => 16384
  | 52 => 16384
  | 53 => 16384
  | 54 => 16384
  | 55 => 16384
  | 56 => 16384
  | 57 => 16384
  | 58 => 16384
  | 59 => 2
  | 60 => 2
  | 61 => 131072
  | 63 => 40
  | 64 => 80
  | 65 => 80
  | 66 => 80
  | 67 => 80
  | 68 => 80
  | 69 => 40
  | 70 => 40
  | 71 => 40
  | 73 => 6
  | 74 => 6
  | 76 => 100
  | 77 => 100
  | 78 => 100
  | 79 => 100
  | 80 => 100
  | 81 => 200
  | 82 => 200
  | 83 => 200
  | 90 => 1
  | _ => 0
def c1p : Nat → Nat → Nat := fun k i => match k with
  | 0 => 39
  | 1 => (match i with | 0 => 40 | 1 => 48 | _ => 70)
  | 2 => (match i with | 0 => 42 | 1 => 50 | _ => 70)
  | 3 => (match i with | 0 => 46 | 1 => 54 | _ => 70)
  | 4 => (match i with | 0 => 41 | 1 => 49 | 2 => 56 | 3 => 57 | 4 => 58 | 5 => 59 | _ => 70)
  | 10 => (match i with | 0 => 43 | 1 => 51 | _ => 70)
  | 11 => (match i with | 0 => 44 | 1 => 52 | _ => 70)
  | 12 => (match i with | 0 => 45 | 1 => 53 | _ => 70)
  | 13 => (match i with | 0 => 47 | 1 => 55 | _ => 70)
  | 24 => (match i with | 0 => 60 | 1 => 61 | _ => 70)
  | 25 => (match i with | 0 => 62 | 1 => 64 | 2 => 66 | 3 => 63 | 4 => 65 | 5 => 67 | _ => 70)
  | 40 => 0
  | 43 => 1
  | 44 => 2
  | 45 => 3
  | 46 => 4
  | 47 => 5
  | 48 => 6
  | 49 => 7
  | 50 => 8
  | 51 => 9
  | 52 => 10
  | 53 => 11
  | 54 => 12
  | 55 => 13
  | 56 => 14
  | 57 => 15
  | 58 => 16
  | 59 => 17
  | 60 => 18
  | 61 => 19
  | 63 => 20
  | 64 => 21
  | 65 => 22
  | 66 => 23
  | 67 => 24
  | 68 => 25
  | 69 => 26
  | 70 => 27
  | 71 => 28
  | 73 => 29
  | 74 => 30
  | 76 => 31
  | 77 => 32
  | 78 => 33
  | 79 => 34
  | 80 => 35
  | 81 => 36
  | 82 => 37
  | 83 => 38
  | 90 => 68
  | _ => 70
def c1A (a30 a31 : Nat) (Lq : List Nat) : Nat → Nat → Nat := fun k i => match k with
  | 30 => a30
  | 31 => a31
  | _ => Lq.getD (c1p k i) 0
def c1M : Nat → Nat → Nat → Int32 := fun k i => match k with
  | 1 => up1 (fun _ => 0) 4 1
  | 25 => up1 (fun _ => 0) 0 (match i with | 0 => 0 | 1 => 1 | 2 => 2 | 3 => 0 | 4 => 1 | 5 => 2 | _ => 0)
  | _ => fun _ => 0
def c1P : Nat → Nat → Nat → Nat := fun k i => match k with
  | 24 => up1 (up1 (up1 (fun _ => 0) 0 (3 * i + 1)) 1 (3 * i + 2)) 2 (3 * i + 3)
  | _ => fun _ => 0
def c1a : AS := fun j => match j with
  | 5 => up1 (up1 (fun _ => 0) 0 1) 1 1
  | _ => fun _ => 0
abbrev c1μ : MP := (c1M, c1P)
abbrev c1ν : NC := (c1N, c1C)
/-- before the law makes anything: the two statics' arrays -/
def c0C : Nat → Nat := fun k => match k with
  | 30 => 1
  | 31 => 1
  | _ => 0
def c0A (a30 a31 : Nat) : Nat → Nat → Nat := fun k _ => match k with
  | 30 => a30
  | 31 => a31
  | _ => 0
abbrev c0S (a30 a31 : Nat) : RS := zS (fun _ _ _ => 0, fun _ _ _ => 0) (fun _ _ => 0, c0C) (fun _ _ => 0) (c0A a30 a31)
theorem c1_lwI : lwI c1ν := ⟨by decide, by decide, by decide, by decide⟩
theorem wld_bulk {D : va_G} {E : Nat → ClassId} {A : Nat → Prop} {σ σ' : RS} {ex : va_W} {H : Heap} (T : List (Nat × Nat)) (h : wld D E A σ ex H)
    (h1 : ∀ k i, live σ' k i → (live σ k i ∧ rA σ' k i = rA σ k i ∧ ct E σ' k i = ct E σ k i) ∨ ∃ j : Nat, T[j]? = some (k, i) ∧ ex[j]? = some (rA σ' k i, ct E σ' k i) ∧ A (rA σ' k i)) : wld D E A σ' [] H := by
  refine ⟨fun k i hl => ?_, fun k i k' i' hl hl' e => ?_, fun j q hq => ?_, fun i j p q hp hq _ => ?_⟩
  · rcases h1 k i hl with ⟨g1, g2, g3⟩ | ⟨j, -, g2, g3⟩
    · rw [g2, g3]; exact h.1 k i g1
    · exact ⟨vA.of (h.2.2.1 j _ g2).1, fun _ _ => g3⟩
  · rcases h1 k i hl with ⟨g1, g2, -⟩ | ⟨j, t1, g2, -⟩
    · rcases h1 k' i' hl' with ⟨f1, f2, -⟩ | ⟨j', t2, f2, -⟩
      · exact h.2.1 _ _ _ _ g1 f1 (by rw [← g2, ← f2]; exact e)
      · exact absurd (by rw [← g2]; exact e) ((h.2.2.1 j' _ f2).2 k i g1)
    · rcases h1 k' i' hl' with ⟨f1, f2, -⟩ | ⟨j', t2, f2, -⟩
      · exact absurd (by rw [← f2]; exact e.symm) ((h.2.2.1 j _ g2).2 k' i' f1)
      · have hj := h.2.2.2 _ _ _ _ g2 f2 e
        subst hj
        have := t1.symm.trans t2
        exact ⟨congrArg Prod.fst (Option.some.inj this), congrArg Prod.snd (Option.some.inj this)⟩
  · exact absurd hq (by simp)
  · exact absurd hp (by simp)
theorem c1_live : ∀ k, k < 91 → ∀ i, i < c1C k → k = 5 ∨ k = 30 ∨ k = 31 ∨ c1T[c1p k i]? = some (k, i) := by decide +kernel
theorem c1_out {k i : Nat} (h : i < c1C k) : k < 91 := by
  apply Classical.byContradiction
  intro hk
  unfold c1C at h
  split at h <;> omega
theorem q3_eq (f : Nat → Nat) (x y z : Nat) : (fun j => if up1 (up1 (up1 (fun _ => 0) 0 (x + 1)) 1 (y + 1)) 2 (z + 1) j = 0 then none else some (f (up1 (up1 (up1 (fun _ => 0) 0 (x + 1)) 1 (y + 1)) 2 (z + 1) j - 1))) = va_up (va_up (va_up (fun _ => none) 0 (some (f x))) 1 (some (f y))) 2 (some (f z)) := by
  funext j
  by_cases h2 : j = 2
  · subst h2; simp [up1, va_up]
  · by_cases h1 : j = 1
    · subst h1; simp [up1, va_up]
    · by_cases h0 : j = 0
      · subst h0; simp [up1, va_up]
      · simp [up1, va_up, h0, h1, h2]
