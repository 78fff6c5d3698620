/-! The calls, class and reference side by side. -/
theorem r_thrown {w : Nat} {a : AS} : f_X9_thrown w a = some (a 0 0) := by
  unfold f_X9_thrown
  rfl
theorem RR_90 {μ : MP} {ν : NC} {a : AS} {v : Int32} (h : RR μ ν a) : RR (up3 μ.1 90 0 0 v, μ.2) ν a := h
/-- both return, with the same answer -/
theorem lwq_ok {cs : List (Nat × Int32)} {μ μ1 : MP} {ν ν1 : NC} {a1 : AS} {v : Int32} : lwq true cs μ ν (0, ((μ1, ν1), v)) (a1, v) (nI 0) = some (((up3 μ1.1 90 0 0 v, μ1.2), ν1), a1) := by
  unfold lwq
  rw [if_pos rfl, if_pos ⟨rfl, fun _ => rfl⟩]
  rfl
theorem o_cut {w : Nat} {μ : MP} {ν : NC} {a : AS} (hR : RR μ ν a) (hw : 8192 < w) : ∃ (μ' : MP) (a' : AS), s_cut w μ ν a = some ((μ', ν), a') ∧ RR μ' ν a' ∧ a' = (if a 0 2 = nI 0 then up2 a 0 0 (nI 1) else gDown (up2 a 0 0 (nI 0))) := by
  unfold s_cut
  by_cases c : a 0 2 = nI 0
  · rw [k_cutX hR c, r_cutX c, if_pos c]
    refine ⟨μ, _, ?_, RR_stop hR, rfl⟩
    rfl
  · obtain ⟨μ', t1, t2⟩ := k_cut (w := w) hR c
    rw [t1, r_cut c hw, if_neg c]
    have h0 : gDown (up2 a 0 0 (nI 0)) 0 0 = nI 0 := by
      unfold gDown
      rw [gForgets_k _ _ _ _ (Or.inr (Or.inl rfl)), gForgets_k _ _ _ _ (Or.inr (Or.inl rfl)), up2_n _ _ (by omega), up2_s]
    simp only [Option.bind_some, r_thrown, h0]
    exact ⟨_, _, lwq_ok, RR_90 t2, rfl⟩
