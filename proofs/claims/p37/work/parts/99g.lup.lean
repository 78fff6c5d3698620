/-! The line comes up. -/
theorem gSnd9 (A : AS) (r : Nat → Int32) (s : Nat) (kd o1 o2 o3 o4 : Int32) (hu : ¬ A 0 2 = 0) : gSends (up1 A 9 r) s kd o1 o2 o3 o4 = up1 (gSends A s kd o1 o2 o3 o4) 9 (up1 r s (A 0 1)) := by
  have n : ∀ k, k ≠ 9 → up1 A 9 r k = A k := fun k h => up1_n _ _ h
  unfold gSends
  rw [n 0 (by decide), n 4 (by decide), if_neg hu, if_neg hu]
  unfold gGoes gKeep pl
  funext k
  by_cases h9 : k = 9
  · subst h9
    simp [up2, up1]
  · rw [up1_n _ _ h9]
    simp [up2, up1, h9]
theorem gSnd0 (A : AS) (s : Nat) (kd o1 o2 o3 o4 : Int32) : gSends A s kd o1 o2 o3 o4 0 = A 0 := by
  unfold gSends
  split
  · unfold gKeep
    rw [up2_k _ _ (by decide), up2_k _ _ (by decide), up2_k _ _ (by decide), up2_k _ _ (by decide), up2_k _ _ (by decide), up2_k _ _ (by decide), up2_k _ _ (by decide), up2_k _ _ (by decide)]
  · unfold gGoes gKeep
    rw [up2_k _ _ (by decide), up2_k _ _ (by decide), up2_k _ _ (by decide), up2_k _ _ (by decide), up2_k _ _ (by decide), up2_k _ _ (by decide), up2_k _ _ (by decide), up2_k _ _ (by decide), up2_k _ _ (by decide), up2_k _ _ (by decide), up2_k _ _ (by decide)]
theorem up1_id {α : Type} (f : Nat → α) (k : Nat) : up1 f k (f k) = f := by
  funext i
  by_cases h : i = k
  · subst h; rw [up1_s]
  · rw [up1_n _ _ h]
/-- both LOGONs: what the sides sent last is told by them alone -/
theorem gCon_9 (A : AS) (r : Nat → Int32) (hu : ¬ A 0 2 = 0) (h9 : ∀ i, 2 ≤ i → A 9 i = r i) : gSends (gSends (up1 A 9 r) 0 (nI 0) (nI 0) (nI 0) (nI 0) (nI 0)) 1 (nI 0) (nI 0) (nI 0) (nI 0) (nI 0) = gSends (gSends A 0 (nI 0) (nI 0) (nI 0) (nI 0) (nI 0)) 1 (nI 0) (nI 0) (nI 0) (nI 0) (nI 0) := by
  have hu2 : ¬ gSends A 0 (nI 0) (nI 0) (nI 0) (nI 0) (nI 0) 0 2 = 0 := by rw [gSnd0]; exact hu
  rw [gSnd9 A r 0 _ _ _ _ _ hu, gSnd9 _ _ 1 _ _ _ _ _ hu2, gSnd0]
  have e := gSnd9 A (A 9) 0 (nI 0) (nI 0) (nI 0) (nI 0) (nI 0) hu
  rw [up1_id] at e
  have e2 := gSnd9 (gSends A 0 (nI 0) (nI 0) (nI 0) (nI 0) (nI 0)) (gSends A 0 (nI 0) (nI 0) (nI 0) (nI 0) (nI 0) 9) 1 (nI 0) (nI 0) (nI 0) (nI 0) (nI 0) hu2
  rw [up1_id, gSnd0] at e2
  have e3 : gSends A 0 (nI 0) (nI 0) (nI 0) (nI 0) (nI 0) 9 = up1 (A 9) 0 (A 0 1) := by rw [e, up1_s]
  rw [e3] at e2
  rw [e2]
  funext k
  by_cases h : k = 9
  · subst h
    rw [up1_s, up1_s]
    funext i
    by_cases i1 : i = 1
    · subst i1; rw [up1_s, up1_s]
    · rw [up1_n _ _ i1, up1_n _ _ i1]
      by_cases i0 : i = 0
      · subst i0; rw [up1_s, up1_s]
      · rw [up1_n _ _ i0, up1_n _ _ i0]; exact (h9 i (by omega)).symm
  · rw [up1_n _ _ h, up1_n _ _ h]
