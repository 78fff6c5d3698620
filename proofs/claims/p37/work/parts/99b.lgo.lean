/-! A queue's entry is read and written; a message goes. -/
theorem I_mul (a b : Nat) : nI a * nI b = nI (a * b) := (Int32.ofNat_mul a b).symm
theorem I_16 (k : Nat) (h : k < 2 ^ 31) : (16 : Int32) * (nI k &&& (3 : Int32)) = nI (16 * (k % 4)) := by
  rw [show (3 : Int32) = nI (2 ^ 2 - 1) from rfl, I_and _ _ (by omega) (by decide)]
  exact I_mul 16 _
theorem I_sh2 (k : Nat) (h : k < 2 ^ 31) : nI k >>> ((2 : Int32) &&& 31) = nI (k / 4) := I_shr k 2 h (by decide)
theorem f_get {w j k : Nat} {b : AS} {q : Nat → Nat} (hj : lnB j 64 = true) (hq : wyL (b j) q) (hk : k < 256) : f_L_get w b j (nI k) = some (nI (q k)) := by
  unfold f_L_get
  have e3 : lgA b j (k / 4) = nL (w4 (q (4 * (k / 4))) (q (4 * (k / 4) + 1)) (q (4 * (k / 4) + 2)) (q (4 * (k / 4) + 3))) := hq.2 (k / 4) (by omega)
  rw [hj, I_sh2 _ (by omega), ixn (by omega) (by decide), I_16 _ (by omega), nI_clamp (by omega), nL_k _ (by omega), e3, w4_get _ (by omega) (hq.1 _) (hq.1 _) (hq.1 _) (hq.1 _), nL_I]
  simp only [cond_true]
  congr 2
  rcases (show k % 4 = 0 ∨ k % 4 = 1 ∨ k % 4 = 2 ∨ k % 4 = 3 by omega) with h | h | h | h <;> rw [h] <;> simp <;> congr 1 <;> omega
theorem f_set {w j k v : Nat} {b : AS} {q : Nat → Nat} (hj : lnB j 64 = true) (hq : wyL (b j) q) (hk : k < 256) (hv : v < 16384) : ∃ V : Int64, f_L_set w b j (nI k) (nI v) = some (wLg b j (k / 4) V, 0) ∧ wyL (wLg b j (k / 4) V j) (up1 q k v) := by
  have e3 : lgA b j (k / 4) = nL (w4 (q (4 * (k / 4))) (q (4 * (k / 4) + 1)) (q (4 * (k / 4) + 2)) (q (4 * (k / 4) + 3))) := hq.2 (k / 4) (by omega)
  refine ⟨nL (w4 (if k % 4 = 0 then v else q (4 * (k / 4))) (if k % 4 = 1 then v else q (4 * (k / 4) + 1)) (if k % 4 = 2 then v else q (4 * (k / 4) + 2)) (if k % 4 = 3 then v else q (4 * (k / 4) + 3))), ?_, fun i => ?_, fun i hi => ?_⟩
  · unfold f_L_set
    rw [hj, I_sh2 _ (by omega), ixn (by omega) (by decide), I_16 _ (by omega), nI_clamp (by omega), nL_k _ (by omega), e3, nI_L _ (by omega), w4_set _ (by omega) (hq.1 _) (hq.1 _) (hq.1 _) (hq.1 _) hv]
    rfl
  · by_cases c : i = k
    · subst c; rw [up1_s]; exact hv
    · rw [up1_n _ _ c]; exact hq.1 i
  · show lgA (wLg b j (k / 4) _) j i = _
    by_cases c : i = k / 4
    · subst c
      rw [lgA_s]
      congr 1
      unfold up1
      congr 1
      · by_cases d : k % 4 = 0
        · rw [if_pos d, if_pos (by omega)]
        · rw [if_neg d, if_neg (by omega)]
      · by_cases d : k % 4 = 1
        · rw [if_pos d, if_pos (by omega)]
        · rw [if_neg d, if_neg (by omega)]
      · by_cases d : k % 4 = 2
        · rw [if_pos d, if_pos (by omega)]
        · rw [if_neg d, if_neg (by omega)]
      · by_cases d : k % 4 = 3
        · rw [if_pos d, if_pos (by omega)]
        · rw [if_neg d, if_neg (by omega)]
    · rw [lgA_n _ _ _ _ (by omega), up1_n _ _ (by omega), up1_n _ _ (by omega), up1_n _ _ (by omega), up1_n _ _ (by omega)]
      exact hq.2 i hi
theorem f_go {w s n f c : Nat} {b : AS} {q : Nat → Nat} (hs : s < 2) (hq : wyL (b (3 - s)) q) (hc : b 1 (17 - s) = nI c) (hc' : c < 255) (hn : n < 64) (hf : f ≤ 64) : ∃ V : Int64, f_L_go w b (nI s) (nI n) (nI f) = some (up2 (up2 (wLg b (3 - s) (c / 4) V) 1 (17 - s) (nI (c + 1))) 1 (12 + s) (b 1 0), 0) ∧ wyL (wLg b (3 - s) (c / 4) V (3 - s)) (up1 q c (n + 64 * f)) := by
  rcases (show s = 0 ∨ s = 1 by omega) with rfl | rfl
  · obtain ⟨V, h1, h2⟩ := f_set (w := w) (j := 3) (v := n + 64 * f) (by decide) hq (show c < 256 by omega) (by omega)
    refine ⟨V, ?_, h2⟩
    have w1 : ∀ i', wLg b 3 (c / 4) V 1 i' = b 1 i' := fun i' => wLg_n _ _ _ _ (by decide) i'
    have hc2 : b 1 17 = nI c := hc
    simp only [f_L_go, b_L_go_15, yl, show nI 1 - nI 0 = nI 1 from rfl, show (16 : Int32) = nI 16 from rfl, show (12 : Int32) = nI 12 from rfl, if_neg (show ¬ nI 1 = (0 : Int32) by decide), Nat.reduceAdd, show ixB (nI 17) 22 = true from rfl, show ixB (nI 12) 22 = true from rfl, show ixB (0 : Int32) 22 = true from rfl, cond_true, show (nI 17).toNatClampNeg = 17 from rfl, show (nI 12).toNatClampNeg = 12 from rfl, show (0 : Int32).toNatClampNeg = 0 from rfl, hc2, show (64 : Int32) = nI 64 from rfl, show (1 : Int32) = nI 1 from rfl, I_mul, nI_add, h1, Option.bind_some, w1]
    rw [up2_n _ _ (show ¬ ((1 : Nat) = 1 ∧ 0 = 17) by decide), w1]
  · obtain ⟨V, h1, h2⟩ := f_set (w := w) (j := 2) (v := n + 64 * f) (by decide) hq (show c < 256 by omega) (by omega)
    refine ⟨V, ?_, h2⟩
    have w1 : ∀ i', wLg b 2 (c / 4) V 1 i' = b 1 i' := fun i' => wLg_n _ _ _ _ (by decide) i'
    have hc2 : b 1 16 = nI c := hc
    simp only [f_L_go, b_L_go_15, yl, show nI 1 - nI 1 = nI 0 from rfl, show (16 : Int32) = nI 16 from rfl, show (12 : Int32) = nI 12 from rfl, if_pos (show nI 0 = (0 : Int32) from rfl), Nat.reduceAdd, show ixB (nI 16) 22 = true from rfl, show ixB (nI 13) 22 = true from rfl, show ixB (0 : Int32) 22 = true from rfl, cond_true, show (nI 16).toNatClampNeg = 16 from rfl, show (nI 13).toNatClampNeg = 13 from rfl, show (0 : Int32).toNatClampNeg = 0 from rfl, hc2, show (64 : Int32) = nI 64 from rfl, show (1 : Int32) = nI 1 from rfl, I_mul, nI_add, h1, Option.bind_some, w1]
    rw [up2_n _ _ (show ¬ ((1 : Nat) = 1 ∧ 0 = 16) by decide), w1]
