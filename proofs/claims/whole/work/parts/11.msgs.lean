theorem halfN {n f : Nat} (h : n = 2 * f) (h2 : f < 1048576) : nI n / 2 = nI f := by
  subst h
  rw [show (2 : Int32) = nI 2 from rfl, pk_div (by omega) (by decide) (by decide)]
  congr 1; omega
theorem i_lt_nI {x : Int32} {f : Nat} (h0 : ¬ x < 0) (h : x < nI f) (hf : f < 2 ^ 31) : ∃ j : Nat, j < f ∧ x = nI j := by
  obtain ⟨j, hj, rfl⟩ := nI_of h0
  exact ⟨j, (nI_ltI hj hf).mp h, rfl⟩
set_option maxHeartbeats 4000000 in
set_option maxRecDepth 100000 in
theorem k_X3_fieldCount_6 (l : Launch) (σ : RS) (i : Nat) (f : Nat) (hf : rN σ 8 i = 2 * f) (hf2 : f < 1048576) (hM : live σ 6 i) (hR : live σ 8 i) : ∀ D E sz, Met l yX3_fieldCount gwX3_fieldCount ({ frames := 0, cells := 0, slots := 0, locals := 0 } : Room) (cP D E sz σ [] [.ref (rA σ 6 i)]) (cQ D E sz σ [] (pI (fun r u => r = nI f ∧ u = (σ, [])))) (0) (0) (Aof σ [] sz) := by
  intro D E sz
  refine g_of (cc := cX3_fieldCount) (maxL := 1) (ret := (some .int)) (own := "TradeLine$Message") (by decide) rfl rfl (Nat.le_of_ble_eq_true rfl) ?_
  intro p e s m args below meth c C hr hin hz ha hwr
  refine g_aload_n C dX3_fieldCount_0 rfl 0 rfl ?_
  refine g_get (k := 6) (i := i) (ref := "TradeLine$Message") C (by exact rfl) (by exact hM) rfl rfl inGX3 2 (by decide) gw_385 (fun _ h => h) rfl dX3_fieldCount_1 ?_
  refine g_topr (fun q1 eq1 => ?_)
  refine g_alen (k := 8) (i := i) C (by exact eq1) (by exact hR) (by decide) rfl dX3_fieldCount_4 ?_
  refine g_iconst (v := 2) C dX3_fieldCount_5 (by decide) ?_
  refine g_idiv C dX3_fieldCount_6 (by decide) ?_
  exact g_iret C hr rfl hz (stq_rfl _) (⟨halfN hf hf2, rfl⟩) (fun j x h => by simp at h) dX3_fieldCount_7
set_option maxHeartbeats 4000000 in
set_option maxRecDepth 100000 in
theorem k_X3_fieldCount_7 (l : Launch) (σ : RS) (i : Nat) (f : Nat) (hf : rN σ 9 i = 2 * f) (hf2 : f < 1048576) (hM : live σ 7 i) (hR : live σ 9 i) : ∀ D E sz, Met l yX3_fieldCount gwX3_fieldCount ({ frames := 0, cells := 0, slots := 0, locals := 0 } : Room) (cP D E sz σ [] [.ref (rA σ 7 i)]) (cQ D E sz σ [] (pI (fun r u => r = nI f ∧ u = (σ, [])))) (0) (0) (Aof σ [] sz) := by
  intro D E sz
  refine g_of (cc := cX3_fieldCount) (maxL := 1) (ret := (some .int)) (own := "TradeLine$Message") (by decide) rfl rfl (Nat.le_of_ble_eq_true rfl) ?_
  intro p e s m args below meth c C hr hin hz ha hwr
  refine g_aload_n C dX3_fieldCount_0 rfl 0 rfl ?_
  refine g_get (k := 7) (i := i) (ref := "TradeLine$Message") C (by exact rfl) (by exact hM) rfl rfl inGX3 2 (by decide) gw_385 (fun _ h => h) rfl dX3_fieldCount_1 ?_
  refine g_topr (fun q1 eq1 => ?_)
  refine g_alen (k := 9) (i := i) C (by exact eq1) (by exact hR) (by decide) rfl dX3_fieldCount_4 ?_
  refine g_iconst (v := 2) C dX3_fieldCount_5 (by decide) ?_
  refine g_idiv C dX3_fieldCount_6 (by decide) ?_
  exact g_iret C hr rfl hz (stq_rfl _) (⟨halfN hf hf2, rfl⟩) (fun j x h => by simp at h) dX3_fieldCount_7
set_option maxHeartbeats 4000000 in
set_option maxRecDepth 100000 in
theorem k_X3_hasPlace_6 (l : Launch) (σ : RS) (i : Nat) (x : Int32) (f : Nat) (hf : rN σ 8 i = 2 * f) (hf2 : f < 1048576) (hM : live σ 6 i) (hR : live σ 8 i) : ∀ D E sz, Met l yX3_hasPlace gwX3_hasPlace ({ frames := 0, cells := 0, slots := 0, locals := 0 } : Room) (cP D E sz σ [] [.ref (rA σ 6 i), .int x]) (cQ D E sz σ [] (pI (fun r u => r = bI (0 ≤ x ∧ x < nI f) ∧ u = (σ, [])))) (0) (0) (Aof σ [] sz) := by
  intro D E sz
  refine g_of (cc := cX3_hasPlace) (maxL := 2) (ret := (some .boolean)) (own := "TradeLine$Message") (by decide) rfl rfl (Nat.le_of_ble_eq_true rfl) ?_
  intro p e s m args below meth c C hr hin hz ha hwr
  refine g_iload_n C dX3_hasPlace_0 rfl 1 rfl ?_
  refine g_if_lt (tgt := 19) C dX3_hasPlace_1 (by decide) (fun c1 => ?_) (fun c1 => ?_)
  · skip
    refine g_iconst (v := 0) C dX3_hasPlace_19 (by decide) ?_
    exact g_iret C hr rfl hz (stq_rfl _) (⟨(by rw [← halfN hf hf2]; first | exact bI_t (by (simp only [Int32.lt_iff_toInt_lt, Int32.le_iff_toInt_le, Int32.toInt_zero, ← Int32.toInt_inj] at *; omega)) | exact bI_f (by (simp only [Int32.lt_iff_toInt_lt, Int32.le_iff_toInt_le, Int32.toInt_zero, ← Int32.toInt_inj] at *; omega))), rfl⟩) (fun j x h => by simp at h) dX3_hasPlace_20
  · skip
    refine g_iload_n C dX3_hasPlace_4 rfl 1 rfl ?_
    refine g_aload_n C dX3_hasPlace_5 rfl 0 rfl ?_
    refine g_get (k := 6) (i := i) (ref := "TradeLine$Message") C (by exact rfl) (by exact hM) rfl rfl inGX3 2 (by decide) gw_385 (fun _ h => h) rfl dX3_hasPlace_6 ?_
    refine g_topr (fun q1 eq1 => ?_)
    refine g_alen (k := 8) (i := i) C (by exact eq1) (by exact hR) (by decide) rfl dX3_hasPlace_9 ?_
    refine g_iconst (v := 2) C dX3_hasPlace_10 (by decide) ?_
    refine g_idiv C dX3_hasPlace_11 (by decide) ?_
    refine g_icmp_ge (tgt := 19) C dX3_hasPlace_12 (by decide) (fun c12 => ?_) (fun c12 => ?_)
    · skip
      refine g_iconst (v := 0) C dX3_hasPlace_19 (by decide) ?_
      exact g_iret C hr rfl hz (stq_rfl _) (⟨(by rw [← halfN hf hf2]; first | exact bI_t (by (simp only [Int32.lt_iff_toInt_lt, Int32.le_iff_toInt_le, Int32.toInt_zero, ← Int32.toInt_inj] at *; omega)) | exact bI_f (by (simp only [Int32.lt_iff_toInt_lt, Int32.le_iff_toInt_le, Int32.toInt_zero, ← Int32.toInt_inj] at *; omega))), rfl⟩) (fun j x h => by simp at h) dX3_hasPlace_20
    · skip
      refine g_iconst (v := 1) C dX3_hasPlace_15 (by decide) ?_
      refine g_goto (tgt := 20) C dX3_hasPlace_16 (by decide) ?_
      exact g_iret C hr rfl hz (stq_rfl _) (⟨(by rw [← halfN hf hf2]; first | exact bI_t (by (simp only [Int32.lt_iff_toInt_lt, Int32.le_iff_toInt_le, Int32.toInt_zero, ← Int32.toInt_inj] at *; omega)) | exact bI_f (by (simp only [Int32.lt_iff_toInt_lt, Int32.le_iff_toInt_le, Int32.toInt_zero, ← Int32.toInt_inj] at *; omega))), rfl⟩) (fun j x h => by simp at h) dX3_hasPlace_20
set_option maxHeartbeats 4000000 in
set_option maxRecDepth 100000 in
theorem k_X3_hasPlace_7 (l : Launch) (σ : RS) (i : Nat) (x : Int32) (f : Nat) (hf : rN σ 9 i = 2 * f) (hf2 : f < 1048576) (hM : live σ 7 i) (hR : live σ 9 i) : ∀ D E sz, Met l yX3_hasPlace gwX3_hasPlace ({ frames := 0, cells := 0, slots := 0, locals := 0 } : Room) (cP D E sz σ [] [.ref (rA σ 7 i), .int x]) (cQ D E sz σ [] (pI (fun r u => r = bI (0 ≤ x ∧ x < nI f) ∧ u = (σ, [])))) (0) (0) (Aof σ [] sz) := by
  intro D E sz
  refine g_of (cc := cX3_hasPlace) (maxL := 2) (ret := (some .boolean)) (own := "TradeLine$Message") (by decide) rfl rfl (Nat.le_of_ble_eq_true rfl) ?_
  intro p e s m args below meth c C hr hin hz ha hwr
  refine g_iload_n C dX3_hasPlace_0 rfl 1 rfl ?_
  refine g_if_lt (tgt := 19) C dX3_hasPlace_1 (by decide) (fun c1 => ?_) (fun c1 => ?_)
  · skip
    refine g_iconst (v := 0) C dX3_hasPlace_19 (by decide) ?_
    exact g_iret C hr rfl hz (stq_rfl _) (⟨(by rw [← halfN hf hf2]; first | exact bI_t (by (simp only [Int32.lt_iff_toInt_lt, Int32.le_iff_toInt_le, Int32.toInt_zero, ← Int32.toInt_inj] at *; omega)) | exact bI_f (by (simp only [Int32.lt_iff_toInt_lt, Int32.le_iff_toInt_le, Int32.toInt_zero, ← Int32.toInt_inj] at *; omega))), rfl⟩) (fun j x h => by simp at h) dX3_hasPlace_20
  · skip
    refine g_iload_n C dX3_hasPlace_4 rfl 1 rfl ?_
    refine g_aload_n C dX3_hasPlace_5 rfl 0 rfl ?_
    refine g_get (k := 7) (i := i) (ref := "TradeLine$Message") C (by exact rfl) (by exact hM) rfl rfl inGX3 2 (by decide) gw_385 (fun _ h => h) rfl dX3_hasPlace_6 ?_
    refine g_topr (fun q1 eq1 => ?_)
    refine g_alen (k := 9) (i := i) C (by exact eq1) (by exact hR) (by decide) rfl dX3_hasPlace_9 ?_
    refine g_iconst (v := 2) C dX3_hasPlace_10 (by decide) ?_
    refine g_idiv C dX3_hasPlace_11 (by decide) ?_
    refine g_icmp_ge (tgt := 19) C dX3_hasPlace_12 (by decide) (fun c12 => ?_) (fun c12 => ?_)
    · skip
      refine g_iconst (v := 0) C dX3_hasPlace_19 (by decide) ?_
      exact g_iret C hr rfl hz (stq_rfl _) (⟨(by rw [← halfN hf hf2]; first | exact bI_t (by (simp only [Int32.lt_iff_toInt_lt, Int32.le_iff_toInt_le, Int32.toInt_zero, ← Int32.toInt_inj] at *; omega)) | exact bI_f (by (simp only [Int32.lt_iff_toInt_lt, Int32.le_iff_toInt_le, Int32.toInt_zero, ← Int32.toInt_inj] at *; omega))), rfl⟩) (fun j x h => by simp at h) dX3_hasPlace_20
    · skip
      refine g_iconst (v := 1) C dX3_hasPlace_15 (by decide) ?_
      refine g_goto (tgt := 20) C dX3_hasPlace_16 (by decide) ?_
      exact g_iret C hr rfl hz (stq_rfl _) (⟨(by rw [← halfN hf hf2]; first | exact bI_t (by (simp only [Int32.lt_iff_toInt_lt, Int32.le_iff_toInt_le, Int32.toInt_zero, ← Int32.toInt_inj] at *; omega)) | exact bI_f (by (simp only [Int32.lt_iff_toInt_lt, Int32.le_iff_toInt_le, Int32.toInt_zero, ← Int32.toInt_inj] at *; omega))), rfl⟩) (fun j x h => by simp at h) dX3_hasPlace_20
