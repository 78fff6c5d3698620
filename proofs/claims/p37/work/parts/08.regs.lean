/-! registers: reads behind writes -/
theorem rMsM (σ : RS) (k i j : Nat) (v : Int32) (k1 i1 j1 : Nat) : rM (sM σ k i j v) k1 i1 j1 = if k1 = k ∧ i1 = i ∧ j1 = j then v else rM σ k1 i1 j1 := by
  show up3 (rM σ) k i j v k1 i1 j1 = _
  unfold up3 up2 up1
  by_cases h1 : k1 = k
  · subst h1
    by_cases h2 : i1 = i
    · subst h2
      by_cases h3 : j1 = j <;> simp [h3]
    · simp [h2]
  · simp [h1]
theorem rPsP (σ : RS) (k i j : Nat) (v : Nat) (k1 i1 j1 : Nat) : rP (sP σ k i j v) k1 i1 j1 = if k1 = k ∧ i1 = i ∧ j1 = j then v else rP σ k1 i1 j1 := by
  show up3 (rP σ) k i j v k1 i1 j1 = _
  unfold up3 up2 up1
  by_cases h1 : k1 = k
  · subst h1
    by_cases h2 : i1 = i
    · subst h2
      by_cases h3 : j1 = j <;> simp [h3]
    · simp [h2]
  · simp [h1]
theorem rNsN (σ : RS) (k i : Nat) (v : Nat) (k1 i1 : Nat) : rN (sN σ k i v) k1 i1 = if k1 = k ∧ i1 = i then v else rN σ k1 i1 := by
  show up2 (rN σ) k i v k1 i1 = _
  unfold up2 up1
  by_cases h1 : k1 = k
  · subst h1
    by_cases h2 : i1 = i <;> simp [h2]
  · simp [h1]
theorem rAsA (σ : RS) (k i : Nat) (v : Nat) (k1 i1 : Nat) : rA (sA σ k i v) k1 i1 = if k1 = k ∧ i1 = i then v else rA σ k1 i1 := by
  show up2 (rA σ) k i v k1 i1 = _
  unfold up2 up1
  by_cases h1 : k1 = k
  · subst h1
    by_cases h2 : i1 = i <;> simp [h2]
  · simp [h1]
theorem rCsC (σ : RS) (k v k1 : Nat) : rC (sC σ k v) k1 = if k1 = k then v else rC σ k1 := rfl
theorem rMsR (σ : RS) (k i : Nat) (f : Nat → Int32) (k1 i1 : Nat) : rM (sR σ k i f) k1 i1 = if k1 = k ∧ i1 = i then f else rM σ k1 i1 := by
  show up2 (rM σ) k i f k1 i1 = _
  unfold up2 up1
  by_cases h1 : k1 = k
  · subst h1
    by_cases h2 : i1 = i <;> simp [h2]
  · simp [h1]
theorem rMsN (σ : RS) (k i v : Nat) : rM (sN σ k i v) = rM σ := rfl
theorem rMsP (σ : RS) (k i j v : Nat) : rM (sP σ k i j v) = rM σ := rfl
theorem rMsC (σ : RS) (k v : Nat) : rM (sC σ k v) = rM σ := rfl
theorem rMsA (σ : RS) (k i v : Nat) : rM (sA σ k i v) = rM σ := rfl
theorem rNsM (σ : RS) (k i j : Nat) (v : Int32) : rN (sM σ k i j v) = rN σ := rfl
theorem rNsP (σ : RS) (k i j v : Nat) : rN (sP σ k i j v) = rN σ := rfl
theorem rNsC (σ : RS) (k v : Nat) : rN (sC σ k v) = rN σ := rfl
theorem rNsA (σ : RS) (k i v : Nat) : rN (sA σ k i v) = rN σ := rfl
theorem rNsR (σ : RS) (k i : Nat) (f : Nat → Int32) : rN (sR σ k i f) = rN σ := rfl
theorem rPsM (σ : RS) (k i j : Nat) (v : Int32) : rP (sM σ k i j v) = rP σ := rfl
theorem rPsN (σ : RS) (k i v : Nat) : rP (sN σ k i v) = rP σ := rfl
theorem rPsC (σ : RS) (k v : Nat) : rP (sC σ k v) = rP σ := rfl
theorem rPsA (σ : RS) (k i v : Nat) : rP (sA σ k i v) = rP σ := rfl
theorem rPsR (σ : RS) (k i : Nat) (f : Nat → Int32) : rP (sR σ k i f) = rP σ := rfl
theorem rCsM (σ : RS) (k i j : Nat) (v : Int32) : rC (sM σ k i j v) = rC σ := rfl
theorem rCsN (σ : RS) (k i v : Nat) : rC (sN σ k i v) = rC σ := rfl
theorem rCsP (σ : RS) (k i j v : Nat) : rC (sP σ k i j v) = rC σ := rfl
theorem rCsA (σ : RS) (k i v : Nat) : rC (sA σ k i v) = rC σ := rfl
theorem rCsR (σ : RS) (k i : Nat) (f : Nat → Int32) : rC (sR σ k i f) = rC σ := rfl
theorem rAsM (σ : RS) (k i j : Nat) (v : Int32) : rA (sM σ k i j v) = rA σ := rfl
theorem rAsN (σ : RS) (k i v : Nat) : rA (sN σ k i v) = rA σ := rfl
theorem rAsP (σ : RS) (k i j v : Nat) : rA (sP σ k i j v) = rA σ := rfl
theorem rAsC (σ : RS) (k v : Nat) : rA (sC σ k v) = rA σ := rfl
theorem rAsR (σ : RS) (k i : Nat) (f : Nat → Int32) : rA (sR σ k i f) = rA σ := rfl
