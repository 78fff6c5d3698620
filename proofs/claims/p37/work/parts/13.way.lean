/-- the messages on their way to a side: a ring of cap slots, n of them from slot h on -/
def WW (σ : RS) (s cap h n : Nat) : Prop := rN σ 10 s = cap ∧ rN σ 11 s = cap ∧ rN σ 12 s = cap ∧ rM σ 2 s 3 = nI h ∧ rM σ 2 s 4 = nI n ∧ h < cap ∧ n ≤ cap ∧ cap ≤ 1048576 ∧ live σ 2 s ∧ live σ 10 s ∧ live σ 11 s ∧ live σ 12 s
/-- the slot of a place -/
def sl (cap h j : Nat) : Nat := if h + j < cap then h + j else h + j - cap
def slx (cap h n j : Nat) : Nat := if n ≤ j then 0 else sl cap h j
theorem sl_lt {cap h j : Nat} (h1 : h < cap) (h2 : j < cap) : sl cap h j < cap := by unfold sl; split <;> omega
theorem slx_lt {cap h n j : Nat} (h1 : h < cap) (h2 : n ≤ cap) : slx cap h n j < cap := by
  unfold slx
  split
  · omega
  · exact sl_lt h1 (by omega)
theorem slx_in {cap h n j : Nat} (hj : j < n) : slx cap h n j = sl cap h j := if_neg (by omega)
theorem sl_hi {cap h n j : Nat} {x : Int32} (hx : x = nI (h + j)) (hj : j < n) (h1 : cap < 2 ^ 31) (h2 : h + j < 2 ^ 31) (c : nI cap ≤ x) : x - nI cap = nI (slx cap h n j) := by
  subst hx
  have h3 := (nI_leI h1 h2).mp c
  rw [slx_in hj, sl, if_neg (by omega), pk_sub h3]
theorem sl_lo {cap h n j : Nat} {x : Int32} (hx : x = nI (h + j)) (hj : j < n) (h1 : cap < 2 ^ 31) (h2 : h + j < 2 ^ 31) (c : ¬ nI cap ≤ x) : x = nI (slx cap h n j) := by
  subst hx
  have h3 : h + j < cap := Nat.lt_of_not_le fun q => c (nI_le q h2)
  rw [slx_in hj, sl, if_pos h3]
set_option maxHeartbeats 4000000 in
set_option maxRecDepth 100000 in
theorem k_X7_slotOf (l : Launch) (σ : RS) (t cap h n : Nat) (hw : WW σ t cap h n) (j : Nat) (hj : j < 2097152) : ∀ D E sz, Met l yX7_slotOf gwX7_slotOf ({ frames := 0, cells := 0, slots := 0, locals := 0 } : Room) (cP D E sz σ [] [.ref (rA σ 2 t), .int (nI j)]) (cQ D E sz σ [] (pI (fun r u => r = nI (slx cap h n j) ∧ u = (σ, [])))) (0) (0) (Aof σ [] sz) := by
  obtain ⟨w10, w11, w12, wh, wn, hh, hn, hcap, l2, l10, l11, l12⟩ := id hw
  intro D E sz
  refine g_of (cc := cX7_slotOf) (maxL := 3) (ret := (some .int)) (own := "TradeLine$Way") (by decide) rfl rfl (Nat.le_of_ble_eq_true rfl) ?_
  intro p e s m args below meth c C hr hin hz ha hwr
  refine g_iload_n C dX7_slotOf_0 rfl 1 rfl ?_
  refine g_if_lt (tgt := 12) C dX7_slotOf_1 (by decide) (fun c1 => ?_) (fun c1 => ?_)
  · exact absurd c1 (nI_pos (by omega))
  · skip
    refine g_iload_n C dX7_slotOf_4 rfl 1 rfl ?_
    refine g_aload_n C dX7_slotOf_5 rfl 0 rfl ?_
    refine g_get (k := 2) (i := t) (ref := "TradeLine$Way") C (by exact rfl) (by exact l2) rfl rfl inGX7 4 (by decide) gw_82 (fun _ h => h) rfl dX7_slotOf_6 ?_
    refine g_icmp_lt (tgt := 14) C dX7_slotOf_9 (by decide) (fun c9 => ?_) (fun c9 => ?_)
    · skip
      refine g_aload_n C dX7_slotOf_14 rfl 0 rfl ?_
      refine g_get (k := 2) (i := t) (ref := "TradeLine$Way") C (by exact rfl) (by exact l2) rfl rfl inGX7 3 (by decide) gw_81 (fun _ h => h) rfl dX7_slotOf_15 ?_
      refine g_iload_n C dX7_slotOf_18 rfl 1 rfl ?_
      refine g_iadd C dX7_slotOf_19 ?_
      refine g_topi (fun xx1 exx1 => ?_)
      refine g_istore_n (lv' := [(2, .int xx1), (0, .ref (rA σ 2 t)), (1, .int (nI j))]) C dX7_slotOf_20 rfl (by decide) rfl ?_
      have e2 : xx1 = nI (h + j) := by rw [exx1, wh, nI_add]
      have hjn : j < n := by rw [wn] at c9; exact (nI_ltI (by omega) (by omega)).mp c9
      refine g_iload_n C dX7_slotOf_21 rfl 0 rfl ?_
      refine g_aload_n C dX7_slotOf_22 rfl 1 rfl ?_
      refine g_get (k := 2) (i := t) (ref := "TradeLine$Way") C (by exact rfl) (by exact l2) rfl rfl inGX7 0 (by decide) gw_78 (fun _ h => h) rfl dX7_slotOf_23 ?_
      refine g_topr (fun qq2 eqq2 => ?_)
      refine g_alen (k := 10) (i := t) C (by exact eqq2) (by exact l10) (by decide) rfl dX7_slotOf_26 ?_
      refine g_icmp_ge (tgt := 34) C dX7_slotOf_27 (by decide) (fun c27 => ?_) (fun c27 => ?_)
      · skip
        refine g_iload_n C dX7_slotOf_34 rfl 0 rfl ?_
        refine g_aload_n C dX7_slotOf_35 rfl 1 rfl ?_
        refine g_get (k := 2) (i := t) (ref := "TradeLine$Way") C (by exact rfl) (by exact l2) rfl rfl inGX7 0 (by decide) gw_78 (fun _ h => h) rfl dX7_slotOf_36 ?_
        refine g_topr (fun qq3 eqq3 => ?_)
        refine g_alen (k := 10) (i := t) C (by exact eqq3) (by exact l10) (by decide) rfl dX7_slotOf_39 ?_
        refine g_isub C dX7_slotOf_40 ?_
        exact g_iret C hr rfl hz (stq_rfl _) (⟨by (try simp only [w10] at c27 ⊢); first | exact sl_hi e2 hjn (by omega) (by omega) c27 | exact sl_lo e2 hjn (by omega) (by omega) c27, rfl⟩) (fun j x h => by simp at h) dX7_slotOf_41
      · skip
        refine g_iload_n C dX7_slotOf_30 rfl 0 rfl ?_
        refine g_goto (tgt := 41) C dX7_slotOf_31 (by decide) ?_
        exact g_iret C hr rfl hz (stq_rfl _) (⟨by (try simp only [w10] at c27 ⊢); first | exact sl_hi e2 hjn (by omega) (by omega) c27 | exact sl_lo e2 hjn (by omega) (by omega) c27, rfl⟩) (fun j x h => by simp at h) dX7_slotOf_41
    · skip
      refine g_iconst (v := 0) C dX7_slotOf_12 (by decide) ?_
      exact g_iret C hr rfl hz (stq_rfl _) (⟨by rw [wn] at c9; unfold slx; rw [if_pos (Nat.le_of_not_lt (fun q => c9 (nI_lt q (by omega))))]; rfl, rfl⟩) (fun j x h => by simp at h) dX7_slotOf_13
set_option maxHeartbeats 4000000 in
set_option maxRecDepth 100000 in
theorem k_X7_numberAt (l : Launch) (σ : RS) (t cap h n : Nat) (hw : WW σ t cap h n) (j : Nat) (hj : j < 2097152) : ∀ D E sz, Met l yX7_numberAt gwX7_numberAt ({ frames := 1, cells := 0, slots := 0, locals := 22 } : Room) (cP D E sz σ [] [.ref (rA σ 2 t), .int (nI j)]) (cQ D E sz σ [] (pI (fun r u => r = rM σ 10 t (slx cap h n j) ∧ u = (σ, [])))) (0) (0) (Aof σ [] sz) := by
  obtain ⟨w10, w11, w12, wh, wn, hh, hn, hcap, l2, l10, l11, l12⟩ := id hw
  intro D E sz
  refine g_of (cc := cX7_numberAt) (maxL := 2) (ret := (some .int)) (own := "TradeLine$Way") (by decide) rfl rfl (Nat.le_of_ble_eq_true rfl) ?_
  intro p e s m args below meth c C hr hin hz ha hwr
  refine g_aload_n C dX7_numberAt_0 rfl 0 rfl ?_
  refine g_get (k := 2) (i := t) (ref := "TradeLine$Way") C (by exact rfl) (by exact l2) rfl rfl inGX7 0 (by decide) gw_78 (fun _ h => h) rfl dX7_numberAt_1 ?_
  refine g_topr (fun qq1 eqq1 => ?_)
  refine g_aload_n C dX7_numberAt_4 rfl 0 rfl ?_
  refine g_iload_n C dX7_numberAt_5 rfl 1 rfl ?_
  refine g_cVi (n := 1) (exc := []) (exr := []) C [_] _ rfl rfl [] [] rfl rfl rfl rfl (fun _ h => absurd h (by simp)) (fun _ h => absurd h (by simp)) (fun _ h => absurd h (by simp)) (fun sz => k_X7_slotOf l σ t cap h n hw j hj D E sz) rfl gw_422 gw_6 gw_419 gw_421 gs_7 ⟨by decide +kernel, by decide +kernel, by decide +kernel⟩ ⟨rfl, rfl⟩ ⟨Nat.le_of_ble_eq_true rfl, Nat.le_of_ble_eq_true rfl⟩ (rcvT l2 rfl rfl rfl) (Nat.le_of_ble_eq_true rfl) dX7_numberAt_6 ⟨by decide, by decide⟩ (fun r u hp hx => ?_)
  obtain ⟨rfl, rfl⟩ := hp
  try dsimp only [List.append_nil]
  refine g_iald (k := 10) (i := t) C (by exact eqq1) (by exact l10) rfl (by exact (by rw [w10]; exact vp_in_nI (slx_lt hh hn) (by omega))) dX7_numberAt_9 ?_
  exact g_iret C hr rfl hz (stq_rfl _) (⟨by rw [nI_clamp (show slx cap h n j < 2 ^ 31 by have := slx_lt (n := n) (j := j) hh hn; omega)], rfl⟩) (fun j x h => by simp at h) dX7_numberAt_10
set_option maxHeartbeats 4000000 in
set_option maxRecDepth 100000 in
theorem k_X7_nextAt (l : Launch) (σ : RS) (t cap h n : Nat) (hw : WW σ t cap h n) (j : Nat) (hj : j < 2097152) : ∀ D E sz, Met l yX7_nextAt gwX7_nextAt ({ frames := 1, cells := 0, slots := 0, locals := 22 } : Room) (cP D E sz σ [] [.ref (rA σ 2 t), .int (nI j)]) (cQ D E sz σ [] (pI (fun r u => r = rM σ 11 t (slx cap h n j) ∧ u = (σ, [])))) (0) (0) (Aof σ [] sz) := by
  obtain ⟨w10, w11, w12, wh, wn, hh, hn, hcap, l2, l10, l11, l12⟩ := id hw
  intro D E sz
  refine g_of (cc := cX7_nextAt) (maxL := 2) (ret := (some .int)) (own := "TradeLine$Way") (by decide) rfl rfl (Nat.le_of_ble_eq_true rfl) ?_
  intro p e s m args below meth c C hr hin hz ha hwr
  refine g_aload_n C dX7_nextAt_0 rfl 0 rfl ?_
  refine g_get (k := 2) (i := t) (ref := "TradeLine$Way") C (by exact rfl) (by exact l2) rfl rfl inGX7 1 (by decide) gw_79 (fun _ h => h) rfl dX7_nextAt_1 ?_
  refine g_topr (fun qq1 eqq1 => ?_)
  refine g_aload_n C dX7_nextAt_4 rfl 0 rfl ?_
  refine g_iload_n C dX7_nextAt_5 rfl 1 rfl ?_
  refine g_cVi (n := 1) (exc := []) (exr := []) C [_] _ rfl rfl [] [] rfl rfl rfl rfl (fun _ h => absurd h (by simp)) (fun _ h => absurd h (by simp)) (fun _ h => absurd h (by simp)) (fun sz => k_X7_slotOf l σ t cap h n hw j hj D E sz) rfl gw_422 gw_6 gw_419 gw_421 gs_7 ⟨by decide +kernel, by decide +kernel, by decide +kernel⟩ ⟨rfl, rfl⟩ ⟨Nat.le_of_ble_eq_true rfl, Nat.le_of_ble_eq_true rfl⟩ (rcvT l2 rfl rfl rfl) (Nat.le_of_ble_eq_true rfl) dX7_nextAt_6 ⟨by decide, by decide⟩ (fun r u hp hx => ?_)
  obtain ⟨rfl, rfl⟩ := hp
  try dsimp only [List.append_nil]
  refine g_iald (k := 11) (i := t) C (by exact eqq1) (by exact l11) rfl (by exact (by rw [w11]; exact vp_in_nI (slx_lt hh hn) (by omega))) dX7_nextAt_9 ?_
  exact g_iret C hr rfl hz (stq_rfl _) (⟨by rw [nI_clamp (show slx cap h n j < 2 ^ 31 by have := slx_lt (n := n) (j := j) hh hn; omega)], rfl⟩) (fun j x h => by simp at h) dX7_nextAt_10
set_option maxHeartbeats 4000000 in
set_option maxRecDepth 100000 in
theorem k_X7_isGarbledAt (l : Launch) (σ : RS) (t cap h n : Nat) (hw : WW σ t cap h n) (j : Nat) (hj : j < 2097152) (hb : ∀ i, rM σ 12 t i = 0 ∨ rM σ 12 t i = 1) : ∀ D E sz, Met l yX7_isGarbledAt gwX7_isGarbledAt ({ frames := 1, cells := 0, slots := 0, locals := 22 } : Room) (cP D E sz σ [] [.ref (rA σ 2 t), .int (nI j)]) (cQ D E sz σ [] (pI (fun r u => r = rM σ 12 t (slx cap h n j) ∧ u = (σ, [])))) (0) (0) (Aof σ [] sz) := by
  obtain ⟨w10, w11, w12, wh, wn, hh, hn, hcap, l2, l10, l11, l12⟩ := id hw
  intro D E sz
  refine g_of (cc := cX7_isGarbledAt) (maxL := 2) (ret := (some .boolean)) (own := "TradeLine$Way") (by decide) rfl rfl (Nat.le_of_ble_eq_true rfl) ?_
  intro p e s m args below meth c C hr hin hz ha hwr
  refine g_aload_n C dX7_isGarbledAt_0 rfl 0 rfl ?_
  refine g_get (k := 2) (i := t) (ref := "TradeLine$Way") C (by exact rfl) (by exact l2) rfl rfl inGX7 2 (by decide) gw_80 (fun _ h => h) rfl dX7_isGarbledAt_1 ?_
  refine g_topr (fun qq1 eqq1 => ?_)
  refine g_aload_n C dX7_isGarbledAt_4 rfl 0 rfl ?_
  refine g_iload_n C dX7_isGarbledAt_5 rfl 1 rfl ?_
  refine g_cVi (n := 1) (exc := []) (exr := []) C [_] _ rfl rfl [] [] rfl rfl rfl rfl (fun _ h => absurd h (by simp)) (fun _ h => absurd h (by simp)) (fun _ h => absurd h (by simp)) (fun sz => k_X7_slotOf l σ t cap h n hw j hj D E sz) rfl gw_422 gw_6 gw_419 gw_421 gs_7 ⟨by decide +kernel, by decide +kernel, by decide +kernel⟩ ⟨rfl, rfl⟩ ⟨Nat.le_of_ble_eq_true rfl, Nat.le_of_ble_eq_true rfl⟩ (rcvT l2 rfl rfl rfl) (Nat.le_of_ble_eq_true rfl) dX7_isGarbledAt_6 ⟨by decide, by decide⟩ (fun r u hp hx => ?_)
  obtain ⟨rfl, rfl⟩ := hp
  try dsimp only [List.append_nil]
  refine g_zald (k := 12) (i := t) C (by exact eqq1) (by exact l12) rfl (by exact (by rw [w12]; exact vp_in_nI (slx_lt hh hn) (by omega))) dX7_isGarbledAt_9 ?_
  exact g_iret C hr (by rcases hb (nI (slx cap h n j)).toNatClampNeg with q | q <;> rw [q] <;> rfl) hz (stq_rfl _) (⟨by rw [nI_clamp (show slx cap h n j < 2 ^ 31 by have := slx_lt (n := n) (j := j) hh hn; omega)], rfl⟩) (fun j x h => by simp at h) dX7_isGarbledAt_10
set_option maxHeartbeats 4000000 in
set_option maxRecDepth 100000 in
theorem k_X7_garbleAt (l : Launch) (σ : RS) (t cap h n : Nat) (hw : WW σ t cap h n) (j : Nat) (hj : j < 2097152) : ∀ D E sz, Met l yX7_garbleAt gwX7_garbleAt ({ frames := 1, cells := 0, slots := 0, locals := 22 } : Room) (cP D E sz σ [] [.ref (rA σ 2 t), .int (nI j)]) (cQ D E sz σ [] (pV (fun u => u = (sM σ 12 t (slx cap h n j) 1, [])))) (0) (0) (Aof σ [] sz) := by
  obtain ⟨w10, w11, w12, wh, wn, hh, hn, hcap, l2, l10, l11, l12⟩ := id hw
  intro D E sz
  refine g_of (cc := cX7_garbleAt) (maxL := 2) (ret := none) (own := "TradeLine$Way") (by decide) rfl rfl (Nat.le_of_ble_eq_true rfl) ?_
  intro p e s m args below meth c C hr hin hz ha hwr
  refine g_aload_n C dX7_garbleAt_0 rfl 0 rfl ?_
  refine g_get (k := 2) (i := t) (ref := "TradeLine$Way") C (by exact rfl) (by exact l2) rfl rfl inGX7 2 (by decide) gw_80 (fun _ h => h) rfl dX7_garbleAt_1 ?_
  refine g_topr (fun qq1 eqq1 => ?_)
  refine g_aload_n C dX7_garbleAt_4 rfl 0 rfl ?_
  refine g_iload_n C dX7_garbleAt_5 rfl 1 rfl ?_
  refine g_cVi (n := 1) (exc := []) (exr := []) C [_] _ rfl rfl [] [] rfl rfl rfl rfl (fun _ h => absurd h (by simp)) (fun _ h => absurd h (by simp)) (fun _ h => absurd h (by simp)) (fun sz => k_X7_slotOf l σ t cap h n hw j hj D E sz) rfl gw_422 gw_6 gw_419 gw_421 gs_7 ⟨by decide +kernel, by decide +kernel, by decide +kernel⟩ ⟨rfl, rfl⟩ ⟨Nat.le_of_ble_eq_true rfl, Nat.le_of_ble_eq_true rfl⟩ (rcvT l2 rfl rfl rfl) (Nat.le_of_ble_eq_true rfl) dX7_garbleAt_6 ⟨by decide, by decide⟩ (fun r u hp hx => ?_)
  obtain ⟨rfl, rfl⟩ := hp
  try dsimp only [List.append_nil]
  refine g_iconst (v := 1) C dX7_garbleAt_9 (by decide) ?_
  refine g_zast (k := 12) (i := t) C (by exact eqq1) (by exact l12) (by decide) rfl (by exact (by rw [w12]; exact vp_in_nI (slx_lt hh hn) (by omega))) dX7_garbleAt_10 ?_
  exact g_vret C hr hz (stq_rfl _) (by rw [nI_clamp (show slx cap h n j < 2 ^ 31 by have := slx_lt (n := n) (j := j) hh hn; omega)]; rfl) (fun j x h => by simp at h) dX7_garbleAt_11
set_option maxHeartbeats 4000000 in
set_option maxRecDepth 100000 in
theorem k_X7_clear (l : Launch) (σ : RS) (t : Nat) (l2 : live σ 2 t) : ∀ D E sz, Met l yX7_clear gwX7_clear ({ frames := 0, cells := 0, slots := 0, locals := 0 } : Room) (cP D E sz σ [] [.ref (rA σ 2 t)]) (cQ D E sz σ [] (pV (fun u => u = (sM (sM σ 2 t 3 0) 2 t 4 0, [])))) (0) (0) (Aof σ [] sz) := by
  intro D E sz
  refine g_of (cc := cX7_clear) (maxL := 1) (ret := none) (own := "TradeLine$Way") (by decide) rfl rfl (Nat.le_of_ble_eq_true rfl) ?_
  intro p e s m args below meth c C hr hin hz ha hwr
  refine g_aload_n C dX7_clear_0 rfl 0 rfl ?_
  refine g_iconst (v := 0) C dX7_clear_1 (by decide) ?_
  refine g_put (k := 2) (i := t) (ref := "TradeLine$Way") C (by exact rfl) (by exact l2) rfl rfl inGX7 tyX7 tyX7_ok nmX7 3 (by decide) gw_81 (fun _ h => h) rfl (tyX7_ok 3 (by decide)) rfl rfl (by simp [fvs]) (by simp [fvs, up1]) dX7_clear_2 ?_
  refine g_aload_n C dX7_clear_5 rfl 0 rfl ?_
  refine g_iconst (v := 0) C dX7_clear_6 (by decide) ?_
  refine g_put (k := 2) (i := t) (ref := "TradeLine$Way") C (by exact rfl) (by exact l2) rfl rfl inGX7 tyX7 tyX7_ok nmX7 4 (by decide) gw_82 (fun _ h => h) rfl (tyX7_ok 4 (by decide)) rfl rfl (by simp [fvs]) (by simp [fvs, up1]) dX7_clear_7 ?_
  exact g_vret C hr hz (stq_rfl _) (rfl) (fun j x h => by simp at h) dX7_clear_10
set_option maxHeartbeats 4000000 in
set_option maxRecDepth 100000 in
theorem k_X7_dropFirst (l : Launch) (σ : RS) (t cap h n : Nat) (hw : WW σ t cap h n) : ∀ D E sz, Met l yX7_dropFirst gwX7_dropFirst ({ frames := 1, cells := 0, slots := 0, locals := 22 } : Room) (cP D E sz σ [] [.ref (rA σ 2 t)]) (cQ D E sz σ [] (pV (fun u => u = (if 0 < n then sM (sM σ 2 t 3 (nI (slx cap h n 1))) 2 t 4 (nI (n - 1)) else σ, [])))) (0) (0) (Aof σ [] sz) := by
  obtain ⟨w10, w11, w12, wh, wn, hh, hn, hcap, l2, l10, l11, l12⟩ := id hw
  intro D E sz
  refine g_of (cc := cX7_dropFirst) (maxL := 1) (ret := none) (own := "TradeLine$Way") (by decide) rfl rfl (Nat.le_of_ble_eq_true rfl) ?_
  intro p e s m args below meth c C hr hin hz ha hwr
  refine g_aload_n C dX7_dropFirst_0 rfl 0 rfl ?_
  refine g_get (k := 2) (i := t) (ref := "TradeLine$Way") C (by exact rfl) (by exact l2) rfl rfl inGX7 4 (by decide) gw_82 (fun _ h => h) rfl dX7_dropFirst_1 ?_
  refine g_if_le (tgt := 26) C dX7_dropFirst_4 (by decide) (fun c4 => ?_) (fun c4 => ?_)
  · skip
    exact g_vret C hr hz (stq_rfl _) (by first | (rw [wn] at c4; rw [if_neg (fun q : 0 < n => nI_nle q (by omega) c4)]) | (rw [wn] at c4; rw [if_pos (Nat.pos_of_ne_zero (fun q => c4 (by rw [q]; decide)))]; simp only [rMsM]; simp [wn]; rw [show (1 : Int32) = nI 1 from rfl, pk_sub (Nat.pos_of_ne_zero (fun q => c4 (by rw [q]; decide)))])) (fun j x h => by simp at h) dX7_dropFirst_26
  · skip
    refine g_aload_n C dX7_dropFirst_7 rfl 0 rfl ?_
    refine g_aload_n C dX7_dropFirst_8 rfl 0 rfl ?_
    refine g_iconst (v := 1) C dX7_dropFirst_9 (by decide) ?_
    refine g_cVi (n := 1) (exc := []) (exr := []) C [_] _ rfl rfl [] [] rfl rfl rfl rfl (fun _ h => absurd h (by simp)) (fun _ h => absurd h (by simp)) (fun _ h => absurd h (by simp)) (fun sz => k_X7_slotOf l σ t cap h n hw 1 (by decide) D E sz) rfl gw_422 gw_6 gw_419 gw_421 gs_7 ⟨by decide +kernel, by decide +kernel, by decide +kernel⟩ ⟨rfl, rfl⟩ ⟨Nat.le_of_ble_eq_true rfl, Nat.le_of_ble_eq_true rfl⟩ (rcvT l2 rfl rfl rfl) (Nat.le_of_ble_eq_true rfl) dX7_dropFirst_10 ⟨by decide, by decide⟩ (fun r u hp hx => ?_)
    obtain ⟨rfl, rfl⟩ := hp
    try dsimp only [List.append_nil]
    refine g_put (k := 2) (i := t) (ref := "TradeLine$Way") C (by exact rfl) (by exact l2) rfl rfl inGX7 tyX7 tyX7_ok nmX7 3 (by decide) gw_81 (fun _ h => h) rfl (tyX7_ok 3 (by decide)) rfl rfl (by simp [fvs]) (by simp [fvs, up1]) dX7_dropFirst_13 ?_
    refine g_aload_n C dX7_dropFirst_16 rfl 0 rfl ?_
    refine g_dup C dX7_dropFirst_17 rfl ?_
    refine g_get (k := 2) (i := t) (ref := "TradeLine$Way") C (by exact rfl) (by exact l2) rfl rfl inGX7 4 (by decide) gw_82 (fun _ h => h) rfl dX7_dropFirst_18 ?_
    refine g_iconst (v := 1) C dX7_dropFirst_21 (by decide) ?_
    refine g_isub C dX7_dropFirst_22 ?_
    refine g_put (k := 2) (i := t) (ref := "TradeLine$Way") C (by exact rfl) (by exact l2) rfl rfl inGX7 tyX7 tyX7_ok nmX7 4 (by decide) gw_82 (fun _ h => h) rfl (tyX7_ok 4 (by decide)) rfl rfl (by simp [fvs]) (by simp [fvs, up1]) dX7_dropFirst_23 ?_
    exact g_vret C hr hz (stq_rfl _) (by first | (rw [wn] at c4; rw [if_neg (fun q : 0 < n => nI_nle q (by omega) c4)]) | (rw [wn] at c4; rw [if_pos (Nat.pos_of_ne_zero (fun q => c4 (by rw [q]; decide)))]; simp only [rMsM]; simp [wn]; rw [show (1 : Int32) = nI 1 from rfl, pk_sub (Nat.pos_of_ne_zero (fun q => c4 (by rw [q]; decide)))])) (fun j x h => by simp at h) dX7_dropFirst_26
