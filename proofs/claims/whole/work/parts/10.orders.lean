/-- a truth value as an int -/
def bI (c : Prop) [Decidable c] : Int32 := if c then 1 else 0
theorem bI_t {c : Prop} [Decidable c] (h : c) : 1 = bI c := (if_pos h).symm
theorem bI_f {c : Prop} [Decidable c] (h : ¬ c) : 0 = bI c := (if_neg h).symm
set_option maxHeartbeats 4000000 in
set_option maxRecDepth 100000 in
theorem k_X4_isInBook (l : Launch) (σ : RS) (i : Nat) (side : Int32) (h20 : live σ 20 i) : ∀ D E sz, Met l yX4_isInBook gwX4_isInBook ({ frames := 0, cells := 0, slots := 0, locals := 0 } : Room) (cP D E sz σ [] [.ref (rA σ 20 i), .int side]) (cQ D E sz σ [] (pI (fun r u => r = bI (side = 0 ∨ rM σ 20 i 6 ≠ 0) ∧ u = (σ, [])))) (0) (0) (Aof σ [] sz) := by
  intro D E sz
  refine g_of (cc := cX4_isInBook) (maxL := 2) (ret := (some .boolean)) (own := "TradeLine$Order") (by decide) rfl rfl (Nat.le_of_ble_eq_true rfl) ?_
  intro p e s m args below meth c C hr hin hz ha hwr
  refine g_iload_n C dX4_isInBook_0 rfl 1 rfl ?_
  refine g_if_eq (tgt := 11) C dX4_isInBook_1 (by decide) (fun c1 => ?_) (fun c1 => ?_)
  · skip
    refine g_iconst (v := 1) C dX4_isInBook_11 (by decide) ?_
    refine g_goto (tgt := 16) C dX4_isInBook_12 (by decide) ?_
    exact g_iret C hr rfl hz (stq_rfl _) (⟨by simp [bI, c1], rfl⟩) (fun j x h => by simp at h) dX4_isInBook_16
  · skip
    refine g_aload_n C dX4_isInBook_4 rfl 0 rfl ?_
    refine g_get (k := 20) (i := i) (ref := "TradeLine$Order") C (by exact rfl) (by exact h20) rfl rfl inGX4 6 (by decide) gw_1148 (fun _ h => h) rfl dX4_isInBook_5 ?_
    refine g_if_eq (tgt := 15) C dX4_isInBook_8 (by decide) (fun c8 => ?_) (fun c8 => ?_)
    · skip
      refine g_iconst (v := 0) C dX4_isInBook_15 (by decide) ?_
      exact g_iret C hr rfl hz (stq_rfl _) (⟨by simp [bI, c1, c8], rfl⟩) (fun j x h => by simp at h) dX4_isInBook_16
    · skip
      refine g_iconst (v := 1) C dX4_isInBook_11 (by decide) ?_
      refine g_goto (tgt := 16) C dX4_isInBook_12 (by decide) ?_
      exact g_iret C hr rfl hz (stq_rfl _) (⟨by simp [bI, c1, c8], rfl⟩) (fun j x h => by simp at h) dX4_isInBook_16
set_option maxHeartbeats 4000000 in
set_option maxRecDepth 100000 in
theorem k_X4_book (l : Launch) (σ : RS) (i : Nat) (side : Int32) (h20 : live σ 20 i) : ∀ D E sz, Met l yX4_book gwX4_book ({ frames := 0, cells := 0, slots := 0, locals := 0 } : Room) (cP D E sz σ [] [.ref (rA σ 20 i), .int side]) (cQ D E sz σ [] (pQ (fun r u => r = .ref (rA σ (if side = 1 then 22 else 21) i) ∧ u = (σ, [])))) (0) (0) (Aof σ [] sz) := by
  intro D E sz
  refine g_of (cc := cX4_book) (maxL := 2) (ret := (some (.object "TradeLine$Book"))) (own := "TradeLine$Order") (by decide) rfl rfl (Nat.le_of_ble_eq_true rfl) ?_
  intro p e s m args below meth c C hr hin hz ha hwr
  refine g_iload_n C dX4_book_0 rfl 1 rfl ?_
  refine g_iconst (v := 1) C dX4_book_1 (by decide) ?_
  refine g_icmp_ne (tgt := 12) C dX4_book_2 (by decide) (fun c2 => ?_) (fun c2 => ?_)
  · skip
    refine g_aload_n C dX4_book_12 rfl 0 rfl ?_
    refine g_get (k := 20) (i := i) (ref := "TradeLine$Order") C (by exact rfl) (by exact h20) rfl rfl inGX4 2 (by decide) gw_1141 (fun _ h => h) rfl dX4_book_13 ?_
    refine g_topr (fun q1 eq1 => ?_)
    exact g_aret C hr (Or.inl ⟨_, rfl⟩) (Or.inr ⟨_, rfl⟩) hz (stq_rfl _) (⟨by simp [*], rfl⟩) (fun j x h => by simp at h) dX4_book_16
  · skip
    refine g_aload_n C dX4_book_5 rfl 0 rfl ?_
    refine g_get (k := 20) (i := i) (ref := "TradeLine$Order") C (by exact rfl) (by exact h20) rfl rfl inGX4 3 (by decide) gw_1143 (fun _ h => h) rfl dX4_book_6 ?_
    refine g_topr (fun q2 eq2 => ?_)
    refine g_goto (tgt := 16) C dX4_book_9 (by decide) ?_
    exact g_aret C hr (Or.inl ⟨_, rfl⟩) (Or.inr ⟨_, rfl⟩) hz (stq_rfl _) (⟨by simp [*], rfl⟩) (fun j x h => by simp at h) dX4_book_16
set_option maxHeartbeats 4000000 in
set_option maxRecDepth 100000 in
theorem k_X4_hasBetterPriceThan (l : Launch) (σ : RS) (i o : Nat) (h20 : live σ 20 i) (h20o : live σ 20 o) (h22 : live σ 22 i) (h22o : live σ 22 o) : ∀ D E sz, Met l yX4_hasBetterPriceThan gwX4_hasBetterPriceThan ({ frames := 0, cells := 0, slots := 0, locals := 0 } : Room) (cP D E sz σ [] [.ref (rA σ 20 i), .ref (rA σ 20 o)]) (cQ D E sz σ [] (pI (fun r u => r = (if rM σ 20 i 1 ≠ 0 then bI (rM σ 22 i 0 < rM σ 22 o 0) else bI (rM σ 22 o 0 < rM σ 22 i 0)) ∧ u = (σ, [])))) (0) (0) (Aof σ [] sz) := by
  intro D E sz
  refine g_of (cc := cX4_hasBetterPriceThan) (maxL := 2) (ret := (some .boolean)) (own := "TradeLine$Order") (by decide) rfl rfl (Nat.le_of_ble_eq_true rfl) ?_
  intro p e s m args below meth c C hr hin hz ha hwr
  refine g_aload_n C dX4_hasBetterPriceThan_0 rfl 0 rfl ?_
  refine g_get (k := 20) (i := i) (ref := "TradeLine$Order") C (by exact rfl) (by exact h20) rfl rfl inGX4 1 (by decide) gw_1139 (fun _ h => h) rfl dX4_hasBetterPriceThan_1 ?_
  refine g_if_eq (tgt := 32) C dX4_hasBetterPriceThan_4 (by decide) (fun c4 => ?_) (fun c4 => ?_)
  · skip
    refine g_aload_n C dX4_hasBetterPriceThan_32 rfl 0 rfl ?_
    refine g_get (k := 20) (i := i) (ref := "TradeLine$Order") C (by exact rfl) (by exact h20) rfl rfl inGX4 3 (by decide) gw_1143 (fun _ h => h) rfl dX4_hasBetterPriceThan_33 ?_
    refine g_topr (fun q1 eq1 => ?_)
    refine g_get (k := 22) (i := i) (ref := "TradeLine$Book") C (by exact eq1) (by exact h22) rfl rfl inGX1 0 (by decide) gw_1118 (fun _ h => h) rfl dX4_hasBetterPriceThan_36 ?_
    refine g_aload_n C dX4_hasBetterPriceThan_39 rfl 1 rfl ?_
    refine g_get (k := 20) (i := o) (ref := "TradeLine$Order") C (by exact rfl) (by exact h20o) rfl rfl inGX4 3 (by decide) gw_1143 (fun _ h => h) rfl dX4_hasBetterPriceThan_40 ?_
    refine g_topr (fun q2 eq2 => ?_)
    refine g_get (k := 22) (i := o) (ref := "TradeLine$Book") C (by exact eq2) (by exact h22o) rfl rfl inGX1 0 (by decide) gw_1118 (fun _ h => h) rfl dX4_hasBetterPriceThan_43 ?_
    refine g_icmp_le (tgt := 53) C dX4_hasBetterPriceThan_46 (by decide) (fun c46 => ?_) (fun c46 => ?_)
    · skip
      refine g_iconst (v := 0) C dX4_hasBetterPriceThan_53 (by decide) ?_
      exact g_iret C hr rfl hz (stq_rfl _) (⟨by simp [bI, c4, c46], rfl⟩) (fun j x h => by simp at h) dX4_hasBetterPriceThan_54
    · skip
      refine g_iconst (v := 1) C dX4_hasBetterPriceThan_49 (by decide) ?_
      refine g_goto (tgt := 54) C dX4_hasBetterPriceThan_50 (by decide) ?_
      exact g_iret C hr rfl hz (stq_rfl _) (⟨by simp [bI, c4, c46], rfl⟩) (fun j x h => by simp at h) dX4_hasBetterPriceThan_54
  · skip
    refine g_aload_n C dX4_hasBetterPriceThan_7 rfl 0 rfl ?_
    refine g_get (k := 20) (i := i) (ref := "TradeLine$Order") C (by exact rfl) (by exact h20) rfl rfl inGX4 3 (by decide) gw_1143 (fun _ h => h) rfl dX4_hasBetterPriceThan_8 ?_
    refine g_topr (fun q3 eq3 => ?_)
    refine g_get (k := 22) (i := i) (ref := "TradeLine$Book") C (by exact eq3) (by exact h22) rfl rfl inGX1 0 (by decide) gw_1118 (fun _ h => h) rfl dX4_hasBetterPriceThan_11 ?_
    refine g_aload_n C dX4_hasBetterPriceThan_14 rfl 1 rfl ?_
    refine g_get (k := 20) (i := o) (ref := "TradeLine$Order") C (by exact rfl) (by exact h20o) rfl rfl inGX4 3 (by decide) gw_1143 (fun _ h => h) rfl dX4_hasBetterPriceThan_15 ?_
    refine g_topr (fun q4 eq4 => ?_)
    refine g_get (k := 22) (i := o) (ref := "TradeLine$Book") C (by exact eq4) (by exact h22o) rfl rfl inGX1 0 (by decide) gw_1118 (fun _ h => h) rfl dX4_hasBetterPriceThan_18 ?_
    refine g_icmp_ge (tgt := 28) C dX4_hasBetterPriceThan_21 (by decide) (fun c21 => ?_) (fun c21 => ?_)
    · skip
      refine g_iconst (v := 0) C dX4_hasBetterPriceThan_28 (by decide) ?_
      refine g_goto (tgt := 54) C dX4_hasBetterPriceThan_29 (by decide) ?_
      exact g_iret C hr rfl hz (stq_rfl _) (⟨by simp [bI, c4, c21], rfl⟩) (fun j x h => by simp at h) dX4_hasBetterPriceThan_54
    · skip
      refine g_iconst (v := 1) C dX4_hasBetterPriceThan_24 (by decide) ?_
      refine g_goto (tgt := 54) C dX4_hasBetterPriceThan_25 (by decide) ?_
      exact g_iret C hr rfl hz (stq_rfl _) (⟨by simp [bI, c4, c21], rfl⟩) (fun j x h => by simp at h) dX4_hasBetterPriceThan_54
set_option maxHeartbeats 4000000 in
set_option maxRecDepth 100000 in
theorem k_X4_endRequest (l : Launch) (σ : RS) (i : Nat) (h20 : live σ 20 i) : ∀ D E sz, Met l yX4_endRequest gwX4_endRequest ({ frames := 0, cells := 0, slots := 0, locals := 0 } : Room) (cP D E sz σ [] [.ref (rA σ 20 i)]) (cQ D E sz σ [] (pV (fun u => u = (if 0 < rM σ 20 i 7 then sM σ 20 i 7 (rM σ 20 i 7 - 1) else σ, [])))) (0) (0) (Aof σ [] sz) := by
  intro D E sz
  refine g_of (cc := cX4_endRequest) (maxL := 1) (ret := none) (own := "TradeLine$Order") (by decide) rfl rfl (Nat.le_of_ble_eq_true rfl) ?_
  intro p e s m args below meth c C hr hin hz ha hwr
  refine g_aload_n C dX4_endRequest_0 rfl 0 rfl ?_
  refine g_get (k := 20) (i := i) (ref := "TradeLine$Order") C (by exact rfl) (by exact h20) rfl rfl inGX4 7 (by decide) gw_1150 (fun _ h => h) rfl dX4_endRequest_1 ?_
  refine g_if_le (tgt := 17) C dX4_endRequest_4 (by decide) (fun c4 => ?_) (fun c4 => ?_)
  · skip
    exact g_vret C hr hz (stq_rfl _) (by simp [← Int32.not_le, *]) (fun j x h => by simp at h) dX4_endRequest_17
  · skip
    refine g_aload_n C dX4_endRequest_7 rfl 0 rfl ?_
    refine g_dup C dX4_endRequest_8 rfl ?_
    refine g_get (k := 20) (i := i) (ref := "TradeLine$Order") C (by exact rfl) (by exact h20) rfl rfl inGX4 7 (by decide) gw_1150 (fun _ h => h) rfl dX4_endRequest_9 ?_
    refine g_iconst (v := 1) C dX4_endRequest_12 (by decide) ?_
    refine g_isub C dX4_endRequest_13 ?_
    refine g_put (k := 20) (i := i) (ref := "TradeLine$Order") C (by exact rfl) (by exact h20) rfl rfl inGX4 tyX4 tyX4_ok nmX4 7 (by decide) gw_1150 (fun _ h => h) rfl (tyX4_ok 7 (by decide)) rfl rfl (by simp [fvs]) (by simp [fvs, up1]) dX4_endRequest_14 ?_
    exact g_vret C hr hz (stq_rfl _) (by simp [← Int32.not_le, *]) (fun j x h => by simp at h) dX4_endRequest_17
set_option maxHeartbeats 4000000 in
set_option maxRecDepth 100000 in
theorem k_X6_isBetterThan (l : Launch) (σ : RS) (i o : Nat) (sl : Int32) (h25 : live σ 25 i) (h25o : live σ 25 o) : ∀ D E sz, Met l yX6_isBetterThan gwX6_isBetterThan ({ frames := 0, cells := 0, slots := 0, locals := 0 } : Room) (cP D E sz σ [] [.ref (rA σ 25 i), .ref (rA σ 25 o), .int sl]) (cQ D E sz σ [] (pI (fun r u => r = (if rM σ 25 i 1 = rM σ 25 o 1 then bI (rM σ 25 o 2 < rM σ 25 i 2) else if sl ≠ 0 then bI (rM σ 25 o 1 < rM σ 25 i 1) else bI (rM σ 25 i 1 < rM σ 25 o 1)) ∧ u = (σ, [])))) (0) (0) (Aof σ [] sz) := by
  intro D E sz
  refine g_of (cc := cX6_isBetterThan) (maxL := 3) (ret := (some .boolean)) (own := "TradeLine$Quote") (by decide) rfl rfl (Nat.le_of_ble_eq_true rfl) ?_
  intro p e s m args below meth c C hr hin hz ha hwr
  refine g_aload_n C dX6_isBetterThan_0 rfl 0 rfl ?_
  refine g_get (k := 25) (i := i) (ref := "TradeLine$Quote") C (by exact rfl) (by exact h25) rfl rfl inGX6 1 (by decide) gw_158 (fun _ h => h) rfl dX6_isBetterThan_1 ?_
  refine g_aload_n C dX6_isBetterThan_4 rfl 1 rfl ?_
  refine g_get (k := 25) (i := o) (ref := "TradeLine$Quote") C (by exact rfl) (by exact h25o) rfl rfl inGX6 1 (by decide) gw_158 (fun _ h => h) rfl dX6_isBetterThan_5 ?_
  refine g_icmp_ne (tgt := 28) C dX6_isBetterThan_8 (by decide) (fun c8 => ?_) (fun c8 => ?_)
  · skip
    refine g_iload_n C dX6_isBetterThan_28 rfl 2 rfl ?_
    refine g_if_eq (tgt := 51) C dX6_isBetterThan_29 (by decide) (fun c29 => ?_) (fun c29 => ?_)
    · skip
      refine g_aload_n C dX6_isBetterThan_51 rfl 0 rfl ?_
      refine g_get (k := 25) (i := i) (ref := "TradeLine$Quote") C (by exact rfl) (by exact h25) rfl rfl inGX6 1 (by decide) gw_158 (fun _ h => h) rfl dX6_isBetterThan_52 ?_
      refine g_aload_n C dX6_isBetterThan_55 rfl 1 rfl ?_
      refine g_get (k := 25) (i := o) (ref := "TradeLine$Quote") C (by exact rfl) (by exact h25o) rfl rfl inGX6 1 (by decide) gw_158 (fun _ h => h) rfl dX6_isBetterThan_56 ?_
      refine g_icmp_ge (tgt := 66) C dX6_isBetterThan_59 (by decide) (fun c59 => ?_) (fun c59 => ?_)
      · skip
        refine g_iconst (v := 0) C dX6_isBetterThan_66 (by decide) ?_
        exact g_iret C hr rfl hz (stq_rfl _) (⟨by simp [bI, c8, c29, c59], rfl⟩) (fun j x h => by simp at h) dX6_isBetterThan_67
      · skip
        refine g_iconst (v := 1) C dX6_isBetterThan_62 (by decide) ?_
        refine g_goto (tgt := 67) C dX6_isBetterThan_63 (by decide) ?_
        exact g_iret C hr rfl hz (stq_rfl _) (⟨by simp [bI, c8, c29, c59], rfl⟩) (fun j x h => by simp at h) dX6_isBetterThan_67
    · skip
      refine g_aload_n C dX6_isBetterThan_32 rfl 0 rfl ?_
      refine g_get (k := 25) (i := i) (ref := "TradeLine$Quote") C (by exact rfl) (by exact h25) rfl rfl inGX6 1 (by decide) gw_158 (fun _ h => h) rfl dX6_isBetterThan_33 ?_
      refine g_aload_n C dX6_isBetterThan_36 rfl 1 rfl ?_
      refine g_get (k := 25) (i := o) (ref := "TradeLine$Quote") C (by exact rfl) (by exact h25o) rfl rfl inGX6 1 (by decide) gw_158 (fun _ h => h) rfl dX6_isBetterThan_37 ?_
      refine g_icmp_le (tgt := 47) C dX6_isBetterThan_40 (by decide) (fun c40 => ?_) (fun c40 => ?_)
      · skip
        refine g_iconst (v := 0) C dX6_isBetterThan_47 (by decide) ?_
        refine g_goto (tgt := 67) C dX6_isBetterThan_48 (by decide) ?_
        exact g_iret C hr rfl hz (stq_rfl _) (⟨by simp [bI, c8, c29, c40], rfl⟩) (fun j x h => by simp at h) dX6_isBetterThan_67
      · skip
        refine g_iconst (v := 1) C dX6_isBetterThan_43 (by decide) ?_
        refine g_goto (tgt := 67) C dX6_isBetterThan_44 (by decide) ?_
        exact g_iret C hr rfl hz (stq_rfl _) (⟨by simp [bI, c8, c29, c40], rfl⟩) (fun j x h => by simp at h) dX6_isBetterThan_67
  · skip
    refine g_aload_n C dX6_isBetterThan_11 rfl 0 rfl ?_
    refine g_get (k := 25) (i := i) (ref := "TradeLine$Quote") C (by exact rfl) (by exact h25) rfl rfl inGX6 2 (by decide) gw_161 (fun _ h => h) rfl dX6_isBetterThan_12 ?_
    refine g_aload_n C dX6_isBetterThan_15 rfl 1 rfl ?_
    refine g_get (k := 25) (i := o) (ref := "TradeLine$Quote") C (by exact rfl) (by exact h25o) rfl rfl inGX6 2 (by decide) gw_161 (fun _ h => h) rfl dX6_isBetterThan_16 ?_
    refine g_icmp_le (tgt := 26) C dX6_isBetterThan_19 (by decide) (fun c19 => ?_) (fun c19 => ?_)
    · skip
      refine g_iconst (v := 0) C dX6_isBetterThan_26 (by decide) ?_
      exact g_iret C hr rfl hz (stq_rfl _) (⟨by simp [bI, c8, c19], rfl⟩) (fun j x h => by simp at h) dX6_isBetterThan_27
    · skip
      refine g_iconst (v := 1) C dX6_isBetterThan_22 (by decide) ?_
      refine g_goto (tgt := 27) C dX6_isBetterThan_23 (by decide) ?_
      exact g_iret C hr rfl hz (stq_rfl _) (⟨by simp [bI, c8, c19], rfl⟩) (fun j x h => by simp at h) dX6_isBetterThan_27
set_option maxHeartbeats 4000000 in
set_option maxRecDepth 100000 in
theorem k_X2_countsFor (l : Launch) (σ : RS) (i : Nat) (side : Int32) (h23 : live σ 23 i) : ∀ D E sz, Met l yX2_countsFor gwX2_countsFor ({ frames := 0, cells := 0, slots := 0, locals := 0 } : Room) (cP D E sz σ [] [.ref (rA σ 23 i), .int side]) (cQ D E sz σ [] (pI (fun r u => r = (if side = 1 then bI (rM σ 23 i 5 = 0) else bI (rM σ 23 i 6 ≠ 0 ∧ rM σ 23 i 8 = 0)) ∧ u = (σ, [])))) (0) (0) (Aof σ [] sz) := by
  intro D E sz
  refine g_of (cc := cX2_countsFor) (maxL := 2) (ret := (some .boolean)) (own := "TradeLine$Execution") (by decide) rfl rfl (Nat.le_of_ble_eq_true rfl) ?_
  intro p e s m args below meth c C hr hin hz ha hwr
  refine g_iload_n C dX2_countsFor_0 rfl 1 rfl ?_
  refine g_iconst (v := 1) C dX2_countsFor_1 (by decide) ?_
  refine g_icmp_ne (tgt := 20) C dX2_countsFor_2 (by decide) (fun c2 => ?_) (fun c2 => ?_)
  · skip
    refine g_aload_n C dX2_countsFor_20 rfl 0 rfl ?_
    refine g_get (k := 23) (i := i) (ref := "TradeLine$Execution") C (by exact rfl) (by exact h23) rfl rfl inGX2 6 (by decide) gw_917 (fun _ h => h) rfl dX2_countsFor_21 ?_
    refine g_if_eq (tgt := 38) C dX2_countsFor_24 (by decide) (fun c24 => ?_) (fun c24 => ?_)
    · skip
      refine g_iconst (v := 0) C dX2_countsFor_38 (by decide) ?_
      exact g_iret C hr rfl hz (stq_rfl _) (⟨by simp [bI, c2, c24], rfl⟩) (fun j x h => by simp at h) dX2_countsFor_39
    · skip
      refine g_aload_n C dX2_countsFor_27 rfl 0 rfl ?_
      refine g_get (k := 23) (i := i) (ref := "TradeLine$Execution") C (by exact rfl) (by exact h23) rfl rfl inGX2 8 (by decide) gw_921 (fun _ h => h) rfl dX2_countsFor_28 ?_
      refine g_if_ne (tgt := 38) C dX2_countsFor_31 (by decide) (fun c31 => ?_) (fun c31 => ?_)
      · skip
        refine g_iconst (v := 0) C dX2_countsFor_38 (by decide) ?_
        exact g_iret C hr rfl hz (stq_rfl _) (⟨by simp [bI, c2, c24, c31], rfl⟩) (fun j x h => by simp at h) dX2_countsFor_39
      · skip
        refine g_iconst (v := 1) C dX2_countsFor_34 (by decide) ?_
        refine g_goto (tgt := 39) C dX2_countsFor_35 (by decide) ?_
        exact g_iret C hr rfl hz (stq_rfl _) (⟨by simp [bI, c2, c24, c31], rfl⟩) (fun j x h => by simp at h) dX2_countsFor_39
  · skip
    refine g_aload_n C dX2_countsFor_5 rfl 0 rfl ?_
    refine g_get (k := 23) (i := i) (ref := "TradeLine$Execution") C (by exact rfl) (by exact h23) rfl rfl inGX2 5 (by decide) gw_915 (fun _ h => h) rfl dX2_countsFor_6 ?_
    refine g_if_ne (tgt := 16) C dX2_countsFor_9 (by decide) (fun c9 => ?_) (fun c9 => ?_)
    · skip
      refine g_iconst (v := 0) C dX2_countsFor_16 (by decide) ?_
      refine g_goto (tgt := 39) C dX2_countsFor_17 (by decide) ?_
      exact g_iret C hr rfl hz (stq_rfl _) (⟨by simp [bI, c2, c9], rfl⟩) (fun j x h => by simp at h) dX2_countsFor_39
    · skip
      refine g_iconst (v := 1) C dX2_countsFor_12 (by decide) ?_
      refine g_goto (tgt := 39) C dX2_countsFor_13 (by decide) ?_
      exact g_iret C hr rfl hz (stq_rfl _) (⟨by simp [bI, c2, c9], rfl⟩) (fun j x h => by simp at h) dX2_countsFor_39
set_option maxHeartbeats 4000000 in
set_option maxRecDepth 100000 in
theorem k_X2_priceFor (l : Launch) (σ : RS) (i : Nat) (side : Int32) (h23 : live σ 23 i) : ∀ D E sz, Met l yX2_priceFor gwX2_priceFor ({ frames := 0, cells := 0, slots := 0, locals := 0 } : Room) (cP D E sz σ [] [.ref (rA σ 23 i), .int side]) (cQ D E sz σ [] (pI (fun r u => r = (if side = 1 then rM σ 23 i 4 else rM σ 23 i 7) ∧ u = (σ, [])))) (0) (0) (Aof σ [] sz) := by
  intro D E sz
  refine g_of (cc := cX2_priceFor) (maxL := 2) (ret := (some .int)) (own := "TradeLine$Execution") (by decide) rfl rfl (Nat.le_of_ble_eq_true rfl) ?_
  intro p e s m args below meth c C hr hin hz ha hwr
  refine g_iload_n C dX2_priceFor_0 rfl 1 rfl ?_
  refine g_iconst (v := 1) C dX2_priceFor_1 (by decide) ?_
  refine g_icmp_ne (tgt := 12) C dX2_priceFor_2 (by decide) (fun c2 => ?_) (fun c2 => ?_)
  · skip
    refine g_aload_n C dX2_priceFor_12 rfl 0 rfl ?_
    refine g_get (k := 23) (i := i) (ref := "TradeLine$Execution") C (by exact rfl) (by exact h23) rfl rfl inGX2 7 (by decide) gw_919 (fun _ h => h) rfl dX2_priceFor_13 ?_
    exact g_iret C hr rfl hz (stq_rfl _) (⟨by simp [*], rfl⟩) (fun j x h => by simp at h) dX2_priceFor_16
  · skip
    refine g_aload_n C dX2_priceFor_5 rfl 0 rfl ?_
    refine g_get (k := 23) (i := i) (ref := "TradeLine$Execution") C (by exact rfl) (by exact h23) rfl rfl inGX2 4 (by decide) gw_913 (fun _ h => h) rfl dX2_priceFor_6 ?_
    refine g_goto (tgt := 16) C dX2_priceFor_9 (by decide) ?_
    exact g_iret C hr rfl hz (stq_rfl _) (⟨by simp [*], rfl⟩) (fun j x h => by simp at h) dX2_priceFor_16
