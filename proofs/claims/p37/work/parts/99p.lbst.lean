variable {Hh : Nat → Nat}
theorem gBest1_3 (a : AS) (d o p v : Nat) (hp : p ≤ 3) (hv : v < 3) : gBest1 a d o p v ≤ 3 := by
  unfold gBest1
  split <;> omega
/-- best: on both sides -/
theorem lk_best {w o d : Nat} {b a : AS} (h : LR Hh b a) (hw : 100 < w) (ho : o < tn (a 0 22)) (e23 : a 23 o = nI d) (hd : d < 2) : f_L_best w b (nI o) = some (qI d (gBest a o)) := by
  obtain ⟨m, rfl⟩ : ∃ m, w = m + 4 := ⟨w - 4, by omega⟩
  have ho10 : o < 10 := by
    obtain ⟨K, e22, hK, -⟩ := h.2.2.2.2.2.2.1
    rw [e22, tnI (by omega)] at ho
    omega
  obtain ⟨-, -, -, -, P, -, hP, -, eP, -⟩ := h.2.2.2.2.2.1 1 o (by decide) ho10
  rw [Nat.mul_one] at eP
  obtain ⟨K, e22, hK, hk, -⟩ := h.2.2.2.2.2.2.1
  rw [e22, tnI (by omega)] at ho
  obtain ⟨se, kn, ha, le, un, rk, g1, g2, g3, g4, g5, g6, g7, g8, -, -, -, -, -⟩ := hk o ho
  have ed : se = d := (nI_eq (by omega) (by omega)).mp (g8.symm.trans e23)
  subst ed
  have hbit := (kd_bits g1 g2 g3 g4 g5 g6).1
  have ho2 : o < 10 := by omega
  have hend : ∀ (k26 : Int32 → Int32 → Int32 → Int32 → Option Int32) (x : Int32), b_L_best_26 k26 (m + 4) b (nI o) x (sg se) (nI (2 * 3 + se)) = some x := fun k26 x => by
    unfold b_L_best_26
    rw [if_pos (show (6 : Int32) ≤ nI (2 * 3 + se) from (nI_leI (a := 6) (b := 2 * 3 + se) (by decide) (by omega)).mpr (by omega))]
  have p1 := gBest1_3 a se o 0 0 (by decide) (by decide)
  have p2 := gBest1_3 a se o (gBest1 a se o 0 0) 1 p1 (by decide)
  have key : l_L_best_26 (m + 4) b (m + 4) (nI o) (-1 : Int32) (sg se) (nI se) = some (qI se (gBest a o)) := by
    have hb : gBest a o = gBest1 a se o (gBest1 a se o (gBest1 a se o 0 0) 1) 2 := by unfold gBest gBestD; rw [e23, tnI (by omega)]
    rw [hb]
    have s0 := be_step (w := m + 4) (k26 := l_L_best_26 (m + 4) b (m + 3)) h ho2 hd e23 eP hP (show 0 ≤ 3 by decide) (show 0 < 3 by decide)
    have s1 := be_step (w := m + 4) (k26 := l_L_best_26 (m + 4) b (m + 2)) h ho2 hd e23 eP hP p1 (show 1 < 3 by decide)
    have s2 := be_step (w := m + 4) (k26 := l_L_best_26 (m + 4) b (m + 1)) h ho2 hd e23 eP hP p2 (show 2 < 3 by decide)
    rw [show 2 * 0 + se = se by omega] at s0
    show b_L_best_26 (l_L_best_26 (m + 4) b (m + 3)) (m + 4) b (nI o) (qI se 0) (sg se) (nI se) = _
    rw [s0]
    show b_L_best_26 (l_L_best_26 (m + 4) b (m + 2)) (m + 4) b (nI o) _ (sg se) (nI (2 * (0 + 1) + se)) = _
    rw [s1]
    show b_L_best_26 (l_L_best_26 (m + 4) b (m + 1)) (m + 4) b (nI o) _ (sg se) (nI (2 * (1 + 1) + se)) = _
    rw [s2]
    exact hend _ _
  have k17 : b_L_best_17 (m + 4) b (nI o) (-1 : Int32) (sg se) = some (qI se (gBest a o)) := by
    unfold b_L_best_17
    rw [ixn ho2 (by decide), nI_clamp (by omega), g7, hbit]
    exact key
  unfold f_L_best
  rw [ixn ho2 (by decide), nI_clamp (by omega), g7, hbit]
  simp only [cond_true]
  rcases (show se = 0 ∨ se = 1 by omega) with rfl | rfl
  · rw [if_neg (by decide)]; exact k17
  · rw [if_pos (show nI 1 = (1 : Int32) from rfl)]; exact k17
