set_option maxHeartbeats 4000000 in
set_option maxRecDepth 100000 in
/-- what is left of an order in a book -/
theorem k_X1_rest (l : Launch) (σ : RS) (k i : Nat) (hk : k = 21 ∨ k = 22) (hl : live σ k i) : ∀ D E sz, Met l yX1_rest gwX1_rest ({ frames := 0, cells := 0, slots := 0, locals := 0 } : Room) (cP D E sz σ [] [.ref (rA σ k i)]) (cQ D E sz σ [] (pI (fun r u => r = rM σ k i 1 - rM σ k i 2 - rM σ k i 3 ∧ u = (σ, [])))) (0) (0) (Aof σ [] sz) := by
  rcases hk with rfl | rfl
  · intro D E sz
    refine g_of (cc := cX1_rest) (maxL := 1) (ret := (some .int)) (own := "TradeLine$Book") (by decide) rfl rfl (Nat.le_of_ble_eq_true rfl) ?_
    intro p e s m args below meth c C hr hin hz ha hwr
    refine g_aload_n C dX1_rest_0 rfl 0 rfl ?_
    refine g_get (k := 21) (i := i) (ref := "TradeLine$Book") C (by exact rfl) (by exact hl) rfl rfl inGX1 1 (by decide) gw_1092 (fun _ h => h) rfl dX1_rest_1 ?_
    refine g_aload_n C dX1_rest_4 rfl 0 rfl ?_
    refine g_get (k := 21) (i := i) (ref := "TradeLine$Book") C (by exact rfl) (by exact hl) rfl rfl inGX1 2 (by decide) gw_1094 (fun _ h => h) rfl dX1_rest_5 ?_
    refine g_isub C dX1_rest_8 ?_
    refine g_aload_n C dX1_rest_9 rfl 0 rfl ?_
    refine g_get (k := 21) (i := i) (ref := "TradeLine$Book") C (by exact rfl) (by exact hl) rfl rfl inGX1 3 (by decide) gw_1097 (fun _ h => h) rfl dX1_rest_10 ?_
    refine g_isub C dX1_rest_13 ?_
    exact g_iret C hr rfl hz (stq_rfl _) (⟨rfl, rfl⟩) (fun j x h => by simp at h) dX1_rest_14
  · intro D E sz
    refine g_of (cc := cX1_rest) (maxL := 1) (ret := (some .int)) (own := "TradeLine$Book") (by decide) rfl rfl (Nat.le_of_ble_eq_true rfl) ?_
    intro p e s m args below meth c C hr hin hz ha hwr
    refine g_aload_n C dX1_rest_0 rfl 0 rfl ?_
    refine g_get (k := 22) (i := i) (ref := "TradeLine$Book") C (by exact rfl) (by exact hl) rfl rfl inGX1 1 (by decide) gw_1092 (fun _ h => h) rfl dX1_rest_1 ?_
    refine g_aload_n C dX1_rest_4 rfl 0 rfl ?_
    refine g_get (k := 22) (i := i) (ref := "TradeLine$Book") C (by exact rfl) (by exact hl) rfl rfl inGX1 2 (by decide) gw_1094 (fun _ h => h) rfl dX1_rest_5 ?_
    refine g_isub C dX1_rest_8 ?_
    refine g_aload_n C dX1_rest_9 rfl 0 rfl ?_
    refine g_get (k := 22) (i := i) (ref := "TradeLine$Book") C (by exact rfl) (by exact hl) rfl rfl inGX1 3 (by decide) gw_1097 (fun _ h => h) rfl dX1_rest_10 ?_
    refine g_isub C dX1_rest_13 ?_
    exact g_iret C hr rfl hz (stq_rfl _) (⟨rfl, rfl⟩) (fun j x h => by simp at h) dX1_rest_14
set_option maxHeartbeats 4000000 in
set_option maxRecDepth 100000 in
/-- a part done is out -/
theorem k_X1_takeBack (l : Launch) (σ : RS) (k i : Nat) (x : Int32) (hk : k = 21 ∨ k = 22) (hl : live σ k i) : ∀ D E sz, Met l yX1_takeBack gwX1_takeBack ({ frames := 0, cells := 0, slots := 0, locals := 0 } : Room) (cP D E sz σ [] [.ref (rA σ k i), .int x]) (cQ D E sz σ [] (pV (fun u => u = (sM (sM σ k i 2 (rM σ k i 2 - x)) k i 3 (rM σ k i 3 + x), [])))) (0) (0) (Aof σ [] sz) := by
  rcases hk with rfl | rfl
  · intro D E sz
    refine g_of (cc := cX1_takeBack) (maxL := 2) (ret := none) (own := "TradeLine$Book") (by decide) rfl rfl (Nat.le_of_ble_eq_true rfl) ?_
    intro p e s m args below meth c C hr hin hz ha hwr
    refine g_aload_n C dX1_takeBack_0 rfl 0 rfl ?_
    refine g_dup C dX1_takeBack_1 rfl ?_
    refine g_get (k := 21) (i := i) (ref := "TradeLine$Book") C (by exact rfl) (by exact hl) rfl rfl inGX1 2 (by decide) gw_1094 (fun _ h => h) rfl dX1_takeBack_2 ?_
    refine g_iload_n C dX1_takeBack_5 rfl 1 rfl ?_
    refine g_isub C dX1_takeBack_6 ?_
    refine g_put (k := 21) (i := i) (ref := "TradeLine$Book") C (by exact rfl) (by exact hl) rfl rfl inGX1 tyX1 tyX1_ok nmX1 2 (by decide) gw_1094 (fun _ h => h) rfl (tyX1_ok 2 (by decide)) rfl rfl (by simp [fvs]) (by simp [fvs, up1]) dX1_takeBack_7 ?_
    refine g_aload_n C dX1_takeBack_10 rfl 0 rfl ?_
    refine g_dup C dX1_takeBack_11 rfl ?_
    refine g_get (k := 21) (i := i) (ref := "TradeLine$Book") C (by exact rfl) (by exact hl) rfl rfl inGX1 3 (by decide) gw_1097 (fun _ h => h) rfl dX1_takeBack_12 ?_
    refine g_iload_n C dX1_takeBack_15 rfl 1 rfl ?_
    refine g_iadd C dX1_takeBack_16 ?_
    refine g_put (k := 21) (i := i) (ref := "TradeLine$Book") C (by exact rfl) (by exact hl) rfl rfl inGX1 tyX1 tyX1_ok nmX1 3 (by decide) gw_1097 (fun _ h => h) rfl (tyX1_ok 3 (by decide)) rfl rfl (by simp [fvs]) (by simp [fvs, up1]) dX1_takeBack_17 ?_
    exact g_vret C hr hz (stq_rfl _) (by simp [rMsM]) (fun j x h => by simp at h) dX1_takeBack_20
  · intro D E sz
    refine g_of (cc := cX1_takeBack) (maxL := 2) (ret := none) (own := "TradeLine$Book") (by decide) rfl rfl (Nat.le_of_ble_eq_true rfl) ?_
    intro p e s m args below meth c C hr hin hz ha hwr
    refine g_aload_n C dX1_takeBack_0 rfl 0 rfl ?_
    refine g_dup C dX1_takeBack_1 rfl ?_
    refine g_get (k := 22) (i := i) (ref := "TradeLine$Book") C (by exact rfl) (by exact hl) rfl rfl inGX1 2 (by decide) gw_1094 (fun _ h => h) rfl dX1_takeBack_2 ?_
    refine g_iload_n C dX1_takeBack_5 rfl 1 rfl ?_
    refine g_isub C dX1_takeBack_6 ?_
    refine g_put (k := 22) (i := i) (ref := "TradeLine$Book") C (by exact rfl) (by exact hl) rfl rfl inGX1 tyX1 tyX1_ok nmX1 2 (by decide) gw_1094 (fun _ h => h) rfl (tyX1_ok 2 (by decide)) rfl rfl (by simp [fvs]) (by simp [fvs, up1]) dX1_takeBack_7 ?_
    refine g_aload_n C dX1_takeBack_10 rfl 0 rfl ?_
    refine g_dup C dX1_takeBack_11 rfl ?_
    refine g_get (k := 22) (i := i) (ref := "TradeLine$Book") C (by exact rfl) (by exact hl) rfl rfl inGX1 3 (by decide) gw_1097 (fun _ h => h) rfl dX1_takeBack_12 ?_
    refine g_iload_n C dX1_takeBack_15 rfl 1 rfl ?_
    refine g_iadd C dX1_takeBack_16 ?_
    refine g_put (k := 22) (i := i) (ref := "TradeLine$Book") C (by exact rfl) (by exact hl) rfl rfl inGX1 tyX1 tyX1_ok nmX1 3 (by decide) gw_1097 (fun _ h => h) rfl (tyX1_ok 3 (by decide)) rfl rfl (by simp [fvs]) (by simp [fvs, up1]) dX1_takeBack_17 ?_
    exact g_vret C hr hz (stq_rfl _) (by simp [rMsM]) (fun j x h => by simp at h) dX1_takeBack_20
