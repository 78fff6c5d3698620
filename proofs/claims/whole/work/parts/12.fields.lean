theorem two_nI (j : Nat) : (2 : Int32) * nI j = nI (2 * j) := pk_mul 2 j
theorem two_nI1 (j : Nat) : (2 : Int32) * nI j + 1 = nI (2 * j + 1) := by rw [two_nI, nI_1]
set_option maxHeartbeats 4000000 in
set_option maxRecDepth 100000 in
theorem k_X3_tagOfPlace_6 (l : Launch) (σ : RS) (i : Nat) (f : Nat) (hf : rN σ 8 i = 2 * f) (hf2 : f < 1048576) (j : Nat) (hj : j < f) (hM : live σ 6 i) (hR : live σ 8 i) : ∀ D E sz, Met l yX3_tagOfPlace gwX3_tagOfPlace ({ frames := 1, cells := 0, slots := 0, locals := 21 } : Room) (cP D E sz σ [] [.ref (rA σ 6 i), .int (nI j)]) (cQ D E sz σ [] (pI (fun r u => r = rM σ 8 i (2 * j) ∧ u = (σ, [])))) (0) (0) (Aof σ [] sz) := by
  intro D E sz
  refine g_of (cc := cX3_tagOfPlace) (maxL := 2) (ret := (some .int)) (own := "TradeLine$Message") (by decide) rfl rfl (Nat.le_of_ble_eq_true rfl) ?_
  intro p e s m args below meth c C hr hin hz ha hwr
  refine g_aload_n C dX3_tagOfPlace_0 rfl 0 rfl ?_
  refine g_iload_n C dX3_tagOfPlace_1 rfl 1 rfl ?_
  refine g_cVi (n := 1) (exc := []) (exr := []) C [_] _ rfl rfl [] [] rfl rfl rfl rfl (fun _ h => absurd h (by simp)) (fun _ h => absurd h (by simp)) (fun _ h => absurd h (by simp)) (fun sz => k_X3_hasPlace_6 l σ i (nI j) f hf hf2 hM hR D E sz) rfl gw_970 gw_14 gw_967 gw_968 gw_969 ⟨by decide +kernel, by decide +kernel, by decide +kernel⟩ ⟨rfl, rfl⟩ ⟨Nat.le_of_ble_eq_true rfl, Nat.le_of_ble_eq_true rfl⟩ (rcvT hM rfl rfl rfl) (Nat.le_of_ble_eq_true rfl) dX3_tagOfPlace_2 ⟨by decide, by decide⟩ (fun r u hp hx => ?_)
  obtain ⟨e5, rfl⟩ := hp
  have e5b : r = 1 := by rw [e5]; exact (bI_t ⟨nI_pos' (by omega), (nI_ltI (by omega) (by omega)).mpr hj⟩).symm
  try dsimp only [List.append_nil]
  refine g_if_eq (tgt := 19) C dX3_tagOfPlace_5 (by decide) (fun c5 => ?_) (fun c5 => ?_)
  · exact absurd c5 (by rw [e5b]; decide)
  · skip
    refine g_aload_n C dX3_tagOfPlace_8 rfl 0 rfl ?_
    refine g_get (k := 6) (i := i) (ref := "TradeLine$Message") C (by exact rfl) (by exact hM) rfl rfl inGX3 2 (by decide) gw_385 (fun _ h => h) rfl dX3_tagOfPlace_9 ?_
    refine g_topr (fun qq1 eqq1 => ?_)
    refine g_iconst (v := 2) C dX3_tagOfPlace_12 (by decide) ?_
    refine g_iload_n C dX3_tagOfPlace_13 rfl 1 rfl ?_
    refine g_imul C dX3_tagOfPlace_14 ?_
    refine g_iald (k := 8) (i := i) C (by exact eqq1) (by exact hR) rfl (by exact (by rw [two_nI j]; exact vp_in_nI (by omega) (by omega))) dX3_tagOfPlace_15 ?_
    refine g_goto (tgt := 20) C dX3_tagOfPlace_16 (by decide) ?_
    exact g_iret C hr rfl hz (stq_rfl _) (⟨by rw [two_nI j, nI_clamp (by omega)], rfl⟩) (fun j x h => by simp at h) dX3_tagOfPlace_20
set_option maxHeartbeats 4000000 in
set_option maxRecDepth 100000 in
theorem k_X3_tagOfPlace_7 (l : Launch) (σ : RS) (i : Nat) (f : Nat) (hf : rN σ 9 i = 2 * f) (hf2 : f < 1048576) (j : Nat) (hj : j < f) (hM : live σ 7 i) (hR : live σ 9 i) : ∀ D E sz, Met l yX3_tagOfPlace gwX3_tagOfPlace ({ frames := 1, cells := 0, slots := 0, locals := 21 } : Room) (cP D E sz σ [] [.ref (rA σ 7 i), .int (nI j)]) (cQ D E sz σ [] (pI (fun r u => r = rM σ 9 i (2 * j) ∧ u = (σ, [])))) (0) (0) (Aof σ [] sz) := by
  intro D E sz
  refine g_of (cc := cX3_tagOfPlace) (maxL := 2) (ret := (some .int)) (own := "TradeLine$Message") (by decide) rfl rfl (Nat.le_of_ble_eq_true rfl) ?_
  intro p e s m args below meth c C hr hin hz ha hwr
  refine g_aload_n C dX3_tagOfPlace_0 rfl 0 rfl ?_
  refine g_iload_n C dX3_tagOfPlace_1 rfl 1 rfl ?_
  refine g_cVi (n := 1) (exc := []) (exr := []) C [_] _ rfl rfl [] [] rfl rfl rfl rfl (fun _ h => absurd h (by simp)) (fun _ h => absurd h (by simp)) (fun _ h => absurd h (by simp)) (fun sz => k_X3_hasPlace_7 l σ i (nI j) f hf hf2 hM hR D E sz) rfl gw_970 gw_14 gw_967 gw_968 gw_969 ⟨by decide +kernel, by decide +kernel, by decide +kernel⟩ ⟨rfl, rfl⟩ ⟨Nat.le_of_ble_eq_true rfl, Nat.le_of_ble_eq_true rfl⟩ (rcvT hM rfl rfl rfl) (Nat.le_of_ble_eq_true rfl) dX3_tagOfPlace_2 ⟨by decide, by decide⟩ (fun r u hp hx => ?_)
  obtain ⟨e5, rfl⟩ := hp
  have e5b : r = 1 := by rw [e5]; exact (bI_t ⟨nI_pos' (by omega), (nI_ltI (by omega) (by omega)).mpr hj⟩).symm
  try dsimp only [List.append_nil]
  refine g_if_eq (tgt := 19) C dX3_tagOfPlace_5 (by decide) (fun c5 => ?_) (fun c5 => ?_)
  · exact absurd c5 (by rw [e5b]; decide)
  · skip
    refine g_aload_n C dX3_tagOfPlace_8 rfl 0 rfl ?_
    refine g_get (k := 7) (i := i) (ref := "TradeLine$Message") C (by exact rfl) (by exact hM) rfl rfl inGX3 2 (by decide) gw_385 (fun _ h => h) rfl dX3_tagOfPlace_9 ?_
    refine g_topr (fun qq1 eqq1 => ?_)
    refine g_iconst (v := 2) C dX3_tagOfPlace_12 (by decide) ?_
    refine g_iload_n C dX3_tagOfPlace_13 rfl 1 rfl ?_
    refine g_imul C dX3_tagOfPlace_14 ?_
    refine g_iald (k := 9) (i := i) C (by exact eqq1) (by exact hR) rfl (by exact (by rw [two_nI j]; exact vp_in_nI (by omega) (by omega))) dX3_tagOfPlace_15 ?_
    refine g_goto (tgt := 20) C dX3_tagOfPlace_16 (by decide) ?_
    exact g_iret C hr rfl hz (stq_rfl _) (⟨by rw [two_nI j, nI_clamp (by omega)], rfl⟩) (fun j x h => by simp at h) dX3_tagOfPlace_20
set_option maxHeartbeats 4000000 in
set_option maxRecDepth 100000 in
theorem k_X3_valueOfPlace_6 (l : Launch) (σ : RS) (i : Nat) (f : Nat) (hf : rN σ 8 i = 2 * f) (hf2 : f < 1048576) (j : Nat) (hj : j < f) (hM : live σ 6 i) (hR : live σ 8 i) : ∀ D E sz, Met l yX3_valueOfPlace gwX3_valueOfPlace ({ frames := 1, cells := 0, slots := 0, locals := 21 } : Room) (cP D E sz σ [] [.ref (rA σ 6 i), .int (nI j)]) (cQ D E sz σ [] (pI (fun r u => r = rM σ 8 i (2 * j + 1) ∧ u = (σ, [])))) (0) (0) (Aof σ [] sz) := by
  intro D E sz
  refine g_of (cc := cX3_valueOfPlace) (maxL := 2) (ret := (some .int)) (own := "TradeLine$Message") (by decide) rfl rfl (Nat.le_of_ble_eq_true rfl) ?_
  intro p e s m args below meth c C hr hin hz ha hwr
  refine g_aload_n C dX3_valueOfPlace_0 rfl 0 rfl ?_
  refine g_iload_n C dX3_valueOfPlace_1 rfl 1 rfl ?_
  refine g_cVi (n := 1) (exc := []) (exr := []) C [_] _ rfl rfl [] [] rfl rfl rfl rfl (fun _ h => absurd h (by simp)) (fun _ h => absurd h (by simp)) (fun _ h => absurd h (by simp)) (fun sz => k_X3_hasPlace_6 l σ i (nI j) f hf hf2 hM hR D E sz) rfl gw_970 gw_14 gw_967 gw_968 gw_969 ⟨by decide +kernel, by decide +kernel, by decide +kernel⟩ ⟨rfl, rfl⟩ ⟨Nat.le_of_ble_eq_true rfl, Nat.le_of_ble_eq_true rfl⟩ (rcvT hM rfl rfl rfl) (Nat.le_of_ble_eq_true rfl) dX3_valueOfPlace_2 ⟨by decide, by decide⟩ (fun r u hp hx => ?_)
  obtain ⟨e5, rfl⟩ := hp
  have e5b : r = 1 := by rw [e5]; exact (bI_t ⟨nI_pos' (by omega), (nI_ltI (by omega) (by omega)).mpr hj⟩).symm
  try dsimp only [List.append_nil]
  refine g_if_eq (tgt := 21) C dX3_valueOfPlace_5 (by decide) (fun c5 => ?_) (fun c5 => ?_)
  · exact absurd c5 (by rw [e5b]; decide)
  · skip
    refine g_aload_n C dX3_valueOfPlace_8 rfl 0 rfl ?_
    refine g_get (k := 6) (i := i) (ref := "TradeLine$Message") C (by exact rfl) (by exact hM) rfl rfl inGX3 2 (by decide) gw_385 (fun _ h => h) rfl dX3_valueOfPlace_9 ?_
    refine g_topr (fun qq1 eqq1 => ?_)
    refine g_iconst (v := 2) C dX3_valueOfPlace_12 (by decide) ?_
    refine g_iload_n C dX3_valueOfPlace_13 rfl 1 rfl ?_
    refine g_imul C dX3_valueOfPlace_14 ?_
    refine g_iconst (v := 1) C dX3_valueOfPlace_15 (by decide) ?_
    refine g_iadd C dX3_valueOfPlace_16 ?_
    refine g_iald (k := 8) (i := i) C (by exact eqq1) (by exact hR) rfl (by exact (by rw [two_nI1 j]; exact vp_in_nI (by omega) (by omega))) dX3_valueOfPlace_17 ?_
    refine g_goto (tgt := 22) C dX3_valueOfPlace_18 (by decide) ?_
    exact g_iret C hr rfl hz (stq_rfl _) (⟨by rw [two_nI1 j, nI_clamp (by omega)], rfl⟩) (fun j x h => by simp at h) dX3_valueOfPlace_22
set_option maxHeartbeats 4000000 in
set_option maxRecDepth 100000 in
theorem k_X3_valueOfPlace_7 (l : Launch) (σ : RS) (i : Nat) (f : Nat) (hf : rN σ 9 i = 2 * f) (hf2 : f < 1048576) (j : Nat) (hj : j < f) (hM : live σ 7 i) (hR : live σ 9 i) : ∀ D E sz, Met l yX3_valueOfPlace gwX3_valueOfPlace ({ frames := 1, cells := 0, slots := 0, locals := 21 } : Room) (cP D E sz σ [] [.ref (rA σ 7 i), .int (nI j)]) (cQ D E sz σ [] (pI (fun r u => r = rM σ 9 i (2 * j + 1) ∧ u = (σ, [])))) (0) (0) (Aof σ [] sz) := by
  intro D E sz
  refine g_of (cc := cX3_valueOfPlace) (maxL := 2) (ret := (some .int)) (own := "TradeLine$Message") (by decide) rfl rfl (Nat.le_of_ble_eq_true rfl) ?_
  intro p e s m args below meth c C hr hin hz ha hwr
  refine g_aload_n C dX3_valueOfPlace_0 rfl 0 rfl ?_
  refine g_iload_n C dX3_valueOfPlace_1 rfl 1 rfl ?_
  refine g_cVi (n := 1) (exc := []) (exr := []) C [_] _ rfl rfl [] [] rfl rfl rfl rfl (fun _ h => absurd h (by simp)) (fun _ h => absurd h (by simp)) (fun _ h => absurd h (by simp)) (fun sz => k_X3_hasPlace_7 l σ i (nI j) f hf hf2 hM hR D E sz) rfl gw_970 gw_14 gw_967 gw_968 gw_969 ⟨by decide +kernel, by decide +kernel, by decide +kernel⟩ ⟨rfl, rfl⟩ ⟨Nat.le_of_ble_eq_true rfl, Nat.le_of_ble_eq_true rfl⟩ (rcvT hM rfl rfl rfl) (Nat.le_of_ble_eq_true rfl) dX3_valueOfPlace_2 ⟨by decide, by decide⟩ (fun r u hp hx => ?_)
  obtain ⟨e5, rfl⟩ := hp
  have e5b : r = 1 := by rw [e5]; exact (bI_t ⟨nI_pos' (by omega), (nI_ltI (by omega) (by omega)).mpr hj⟩).symm
  try dsimp only [List.append_nil]
  refine g_if_eq (tgt := 21) C dX3_valueOfPlace_5 (by decide) (fun c5 => ?_) (fun c5 => ?_)
  · exact absurd c5 (by rw [e5b]; decide)
  · skip
    refine g_aload_n C dX3_valueOfPlace_8 rfl 0 rfl ?_
    refine g_get (k := 7) (i := i) (ref := "TradeLine$Message") C (by exact rfl) (by exact hM) rfl rfl inGX3 2 (by decide) gw_385 (fun _ h => h) rfl dX3_valueOfPlace_9 ?_
    refine g_topr (fun qq1 eqq1 => ?_)
    refine g_iconst (v := 2) C dX3_valueOfPlace_12 (by decide) ?_
    refine g_iload_n C dX3_valueOfPlace_13 rfl 1 rfl ?_
    refine g_imul C dX3_valueOfPlace_14 ?_
    refine g_iconst (v := 1) C dX3_valueOfPlace_15 (by decide) ?_
    refine g_iadd C dX3_valueOfPlace_16 ?_
    refine g_iald (k := 9) (i := i) C (by exact eqq1) (by exact hR) rfl (by exact (by rw [two_nI1 j]; exact vp_in_nI (by omega) (by omega))) dX3_valueOfPlace_17 ?_
    refine g_goto (tgt := 22) C dX3_valueOfPlace_18 (by decide) ?_
    exact g_iret C hr rfl hz (stq_rfl _) (⟨by rw [two_nI1 j, nI_clamp (by omega)], rfl⟩) (fun j x h => by simp at h) dX3_valueOfPlace_22
/-- the value of the first of n fields, from field j on, with the tag; -1 if there is none -/
def vOf (row : Nat → Int32) (tag : Int32) : Nat → Nat → Int32
  | 0, _ => -1
  | n + 1, j => if row (2 * j) = tag then row (2 * j + 1) else vOf row tag n (j + 1)
set_option maxHeartbeats 4000000 in
set_option maxRecDepth 100000 in
theorem lo_X3_valueOf_6 {p : Program} {l : Launch} {e : Env} {R : Room} {s : State} {m : MethodId} {args : Array Value} {below : List Frame} {meth : Method} {c : Code} {D : va_G} {E : Nat → ClassId} {A : Nat → Prop} {Q : State → Prop} (C : cx p s m args meth c D E A cX3_valueOf 3 "TradeLine$Message") (σ : RS) (i : Nat) (tag : Int32) (f : Nat) (hf : rN σ 8 i = 2 * f) (hf2 : f < 1048576) (hM : live σ 6 i) (hR : live σ 8 i) (ret : Int32)
    (k1 : ∀ x : Int32, G p l e R s m args below meth c D E A 3 Q σ [] 0 0 31 [(2, .int x), (0, .ref (rA σ 6 i)), (1, .int tag)] [.int ret]) (k2 : ∀ x : Int32, ret = -1 → G p l e R s m args below meth c D E A 3 Q σ [] 0 0 38 [(2, .int x), (0, .ref (rA σ 6 i)), (1, .int tag)] []) : ∀ (n j : Nat), j + n = f → vOf (rM σ 8 i) tag n j = ret → G p l e R s m args below meth c D E A 3 Q σ [] 0 0 2 [(2, .int (nI (2 * j))), (0, .ref (rA σ 6 i)), (1, .int tag)] [] := by
  intro n
  induction n with
  | zero =>
    intro j hj hv
    have e10 : nI (rN σ 8 i) ≤ nI (2 * j) + 1 := by rw [hf, nI_1]; exact nI_le (by omega) (by omega)
    refine g_iload_n C dX3_valueOf_2 rfl 0 rfl ?_
    refine g_iconst (v := 1) C dX3_valueOf_3 (by decide) ?_
    refine g_iadd C dX3_valueOf_4 ?_
    refine g_aload_n C dX3_valueOf_5 rfl 1 rfl ?_
    refine g_get (k := 6) (i := i) (ref := "TradeLine$Message") C (by exact rfl) (by exact hM) rfl rfl inGX3 2 (by decide) gw_385 (fun _ h => h) rfl dX3_valueOf_6 ?_
    refine g_topr (fun qq1 eqq1 => ?_)
    refine g_alen (k := 8) (i := i) C (by exact eqq1) (by exact hR) (by decide) rfl dX3_valueOf_9 ?_
    refine g_icmp_ge (tgt := 38) C dX3_valueOf_10 (by decide) (fun c10 => ?_) (fun c10 => ?_)
    · skip
      exact k2 _ hv.symm
    · exact absurd c10 (fun h => h e10)
  | succ n ih =>
    intro j hj hv
    have h1 : vp_in (nI (2 * j)) (rN σ 8 i) := by rw [hf]; exact vp_in_nI (by omega) (by omega)
    have h2 : vp_in (nI (2 * j) + 1) (rN σ 8 i) := by rw [hf, nI_1]; exact vp_in_nI (by omega) (by omega)
    have e1 : (nI (2 * j)).toNatClampNeg = 2 * j := nI_clamp (by omega)
    have e2 : (nI (2 * j) + 1).toNatClampNeg = 2 * j + 1 := by rw [nI_1]; exact nI_clamp (by omega)
    have e10 : ¬ nI (rN σ 8 i) ≤ nI (2 * j) + 1 := by rw [hf, nI_1]; exact nI_ge (by omega) (by omega)
    unfold vOf at hv
    refine g_iload_n C dX3_valueOf_2 rfl 0 rfl ?_
    refine g_iconst (v := 1) C dX3_valueOf_3 (by decide) ?_
    refine g_iadd C dX3_valueOf_4 ?_
    refine g_aload_n C dX3_valueOf_5 rfl 1 rfl ?_
    refine g_get (k := 6) (i := i) (ref := "TradeLine$Message") C (by exact rfl) (by exact hM) rfl rfl inGX3 2 (by decide) gw_385 (fun _ h => h) rfl dX3_valueOf_6 ?_
    refine g_topr (fun qq1 eqq1 => ?_)
    refine g_alen (k := 8) (i := i) C (by exact eqq1) (by exact hR) (by decide) rfl dX3_valueOf_9 ?_
    refine g_icmp_ge (tgt := 38) C dX3_valueOf_10 (by decide) (fun c10 => ?_) (fun c10 => ?_)
    · exact absurd c10 e10
    · skip
      refine g_aload_n C dX3_valueOf_13 rfl 1 rfl ?_
      refine g_get (k := 6) (i := i) (ref := "TradeLine$Message") C (by exact rfl) (by exact hM) rfl rfl inGX3 2 (by decide) gw_385 (fun _ h => h) rfl dX3_valueOf_14 ?_
      refine g_topr (fun qq2 eqq2 => ?_)
      refine g_iload_n C dX3_valueOf_17 rfl 0 rfl ?_
      refine g_iald (k := 8) (i := i) C (by exact eqq2) (by exact hR) rfl (by exact h1) dX3_valueOf_18 ?_
      refine g_iload_n C dX3_valueOf_19 rfl 2 rfl ?_
      refine g_icmp_ne (tgt := 32) C dX3_valueOf_20 (by decide) (fun c20 => ?_) (fun c20 => ?_)
      · skip
        obtain ⟨xx3, exx3⟩ : ∃ y : Int32, y = (nI (2 * j)) + 2 := ⟨_, rfl⟩
        refine g_iinc (v := xx3) (lv' := [(2, .int xx3), (0, .ref (rA σ 6 i)), (1, .int tag)]) C dX3_valueOf_32 0 rfl (by rw [exx3]; rfl) (by decide) rfl ?_
        refine g_goto (tgt := 2) C dX3_valueOf_35 (by decide) ?_
        rw [e1] at c20
        rw [if_neg c20] at hv
        have e3 : xx3 = nI (2 * (j + 1)) := by rw [exx3, show (2 : Int32) = nI 2 from rfl, nI_add]; congr 1
        rw [e3]
        exact ih (j + 1) (by omega) hv
      · skip
        refine g_aload_n C dX3_valueOf_23 rfl 1 rfl ?_
        refine g_get (k := 6) (i := i) (ref := "TradeLine$Message") C (by exact rfl) (by exact hM) rfl rfl inGX3 2 (by decide) gw_385 (fun _ h => h) rfl dX3_valueOf_24 ?_
        refine g_topr (fun qq4 eqq4 => ?_)
        refine g_iload_n C dX3_valueOf_27 rfl 0 rfl ?_
        refine g_iconst (v := 1) C dX3_valueOf_28 (by decide) ?_
        refine g_iadd C dX3_valueOf_29 ?_
        refine g_iald (k := 8) (i := i) C (by exact eqq4) (by exact hR) rfl (by exact h2) dX3_valueOf_30 ?_
        rw [e1] at c20
        rw [if_pos c20] at hv
        rw [e2, hv]
        exact k1 _
set_option maxHeartbeats 4000000 in
set_option maxRecDepth 100000 in
theorem k_X3_valueOf_6 (l : Launch) (σ : RS) (i : Nat) (tag : Int32) (f : Nat) (hf : rN σ 8 i = 2 * f) (hf2 : f < 1048576) (hM : live σ 6 i) (hR : live σ 8 i) : ∀ D E sz, Met l yX3_valueOf gwX3_valueOf ({ frames := 0, cells := 0, slots := 0, locals := 0 } : Room) (cP D E sz σ [] [.ref (rA σ 6 i), .int tag]) (cQ D E sz σ [] (pI (fun r u => r = vOf (rM σ 8 i) tag f 0 ∧ u = (σ, [])))) (0) (0) (Aof σ [] sz) := by
  intro D E sz
  refine g_of (cc := cX3_valueOf) (maxL := 3) (ret := (some .int)) (own := "TradeLine$Message") (by decide) rfl rfl (Nat.le_of_ble_eq_true rfl) ?_
  intro p e s m args below meth c C hr hin hz ha hwr
  refine g_iconst (v := 0) C dX3_valueOf_0 (by decide) ?_
  refine g_istore_n (lv' := [(2, .int 0), (0, .ref (rA σ 6 i)), (1, .int tag)]) C dX3_valueOf_1 rfl (by decide) rfl ?_
  refine lo_X3_valueOf_6 C σ i tag f hf hf2 hM hR _ (fun x => ?_) (fun x h => ?_) f 0 (by omega) rfl
  · exact g_iret C hr rfl hz (stq_rfl _) ⟨rfl, rfl⟩ (fun j x h => by simp at h) dX3_valueOf_31
  · refine g_iconst (v := (-1)) C dX3_valueOf_38 (by decide) ?_
    exact g_iret C hr rfl hz (stq_rfl _) ⟨h.symm, rfl⟩ (fun j x h => by simp at h) dX3_valueOf_39
set_option maxHeartbeats 4000000 in
set_option maxRecDepth 100000 in
theorem lo_X3_valueOf_7 {p : Program} {l : Launch} {e : Env} {R : Room} {s : State} {m : MethodId} {args : Array Value} {below : List Frame} {meth : Method} {c : Code} {D : va_G} {E : Nat → ClassId} {A : Nat → Prop} {Q : State → Prop} (C : cx p s m args meth c D E A cX3_valueOf 3 "TradeLine$Message") (σ : RS) (i : Nat) (tag : Int32) (f : Nat) (hf : rN σ 9 i = 2 * f) (hf2 : f < 1048576) (hM : live σ 7 i) (hR : live σ 9 i) (ret : Int32)
    (k1 : ∀ x : Int32, G p l e R s m args below meth c D E A 3 Q σ [] 0 0 31 [(2, .int x), (0, .ref (rA σ 7 i)), (1, .int tag)] [.int ret]) (k2 : ∀ x : Int32, ret = -1 → G p l e R s m args below meth c D E A 3 Q σ [] 0 0 38 [(2, .int x), (0, .ref (rA σ 7 i)), (1, .int tag)] []) : ∀ (n j : Nat), j + n = f → vOf (rM σ 9 i) tag n j = ret → G p l e R s m args below meth c D E A 3 Q σ [] 0 0 2 [(2, .int (nI (2 * j))), (0, .ref (rA σ 7 i)), (1, .int tag)] [] := by
  intro n
  induction n with
  | zero =>
    intro j hj hv
    have e10 : nI (rN σ 9 i) ≤ nI (2 * j) + 1 := by rw [hf, nI_1]; exact nI_le (by omega) (by omega)
    refine g_iload_n C dX3_valueOf_2 rfl 0 rfl ?_
    refine g_iconst (v := 1) C dX3_valueOf_3 (by decide) ?_
    refine g_iadd C dX3_valueOf_4 ?_
    refine g_aload_n C dX3_valueOf_5 rfl 1 rfl ?_
    refine g_get (k := 7) (i := i) (ref := "TradeLine$Message") C (by exact rfl) (by exact hM) rfl rfl inGX3 2 (by decide) gw_385 (fun _ h => h) rfl dX3_valueOf_6 ?_
    refine g_topr (fun qq1 eqq1 => ?_)
    refine g_alen (k := 9) (i := i) C (by exact eqq1) (by exact hR) (by decide) rfl dX3_valueOf_9 ?_
    refine g_icmp_ge (tgt := 38) C dX3_valueOf_10 (by decide) (fun c10 => ?_) (fun c10 => ?_)
    · skip
      exact k2 _ hv.symm
    · exact absurd c10 (fun h => h e10)
  | succ n ih =>
    intro j hj hv
    have h1 : vp_in (nI (2 * j)) (rN σ 9 i) := by rw [hf]; exact vp_in_nI (by omega) (by omega)
    have h2 : vp_in (nI (2 * j) + 1) (rN σ 9 i) := by rw [hf, nI_1]; exact vp_in_nI (by omega) (by omega)
    have e1 : (nI (2 * j)).toNatClampNeg = 2 * j := nI_clamp (by omega)
    have e2 : (nI (2 * j) + 1).toNatClampNeg = 2 * j + 1 := by rw [nI_1]; exact nI_clamp (by omega)
    have e10 : ¬ nI (rN σ 9 i) ≤ nI (2 * j) + 1 := by rw [hf, nI_1]; exact nI_ge (by omega) (by omega)
    unfold vOf at hv
    refine g_iload_n C dX3_valueOf_2 rfl 0 rfl ?_
    refine g_iconst (v := 1) C dX3_valueOf_3 (by decide) ?_
    refine g_iadd C dX3_valueOf_4 ?_
    refine g_aload_n C dX3_valueOf_5 rfl 1 rfl ?_
    refine g_get (k := 7) (i := i) (ref := "TradeLine$Message") C (by exact rfl) (by exact hM) rfl rfl inGX3 2 (by decide) gw_385 (fun _ h => h) rfl dX3_valueOf_6 ?_
    refine g_topr (fun qq1 eqq1 => ?_)
    refine g_alen (k := 9) (i := i) C (by exact eqq1) (by exact hR) (by decide) rfl dX3_valueOf_9 ?_
    refine g_icmp_ge (tgt := 38) C dX3_valueOf_10 (by decide) (fun c10 => ?_) (fun c10 => ?_)
    · exact absurd c10 e10
    · skip
      refine g_aload_n C dX3_valueOf_13 rfl 1 rfl ?_
      refine g_get (k := 7) (i := i) (ref := "TradeLine$Message") C (by exact rfl) (by exact hM) rfl rfl inGX3 2 (by decide) gw_385 (fun _ h => h) rfl dX3_valueOf_14 ?_
      refine g_topr (fun qq2 eqq2 => ?_)
      refine g_iload_n C dX3_valueOf_17 rfl 0 rfl ?_
      refine g_iald (k := 9) (i := i) C (by exact eqq2) (by exact hR) rfl (by exact h1) dX3_valueOf_18 ?_
      refine g_iload_n C dX3_valueOf_19 rfl 2 rfl ?_
      refine g_icmp_ne (tgt := 32) C dX3_valueOf_20 (by decide) (fun c20 => ?_) (fun c20 => ?_)
      · skip
        obtain ⟨xx3, exx3⟩ : ∃ y : Int32, y = (nI (2 * j)) + 2 := ⟨_, rfl⟩
        refine g_iinc (v := xx3) (lv' := [(2, .int xx3), (0, .ref (rA σ 7 i)), (1, .int tag)]) C dX3_valueOf_32 0 rfl (by rw [exx3]; rfl) (by decide) rfl ?_
        refine g_goto (tgt := 2) C dX3_valueOf_35 (by decide) ?_
        rw [e1] at c20
        rw [if_neg c20] at hv
        have e3 : xx3 = nI (2 * (j + 1)) := by rw [exx3, show (2 : Int32) = nI 2 from rfl, nI_add]; congr 1
        rw [e3]
        exact ih (j + 1) (by omega) hv
      · skip
        refine g_aload_n C dX3_valueOf_23 rfl 1 rfl ?_
        refine g_get (k := 7) (i := i) (ref := "TradeLine$Message") C (by exact rfl) (by exact hM) rfl rfl inGX3 2 (by decide) gw_385 (fun _ h => h) rfl dX3_valueOf_24 ?_
        refine g_topr (fun qq4 eqq4 => ?_)
        refine g_iload_n C dX3_valueOf_27 rfl 0 rfl ?_
        refine g_iconst (v := 1) C dX3_valueOf_28 (by decide) ?_
        refine g_iadd C dX3_valueOf_29 ?_
        refine g_iald (k := 9) (i := i) C (by exact eqq4) (by exact hR) rfl (by exact h2) dX3_valueOf_30 ?_
        rw [e1] at c20
        rw [if_pos c20] at hv
        rw [e2, hv]
        exact k1 _
set_option maxHeartbeats 4000000 in
set_option maxRecDepth 100000 in
theorem k_X3_valueOf_7 (l : Launch) (σ : RS) (i : Nat) (tag : Int32) (f : Nat) (hf : rN σ 9 i = 2 * f) (hf2 : f < 1048576) (hM : live σ 7 i) (hR : live σ 9 i) : ∀ D E sz, Met l yX3_valueOf gwX3_valueOf ({ frames := 0, cells := 0, slots := 0, locals := 0 } : Room) (cP D E sz σ [] [.ref (rA σ 7 i), .int tag]) (cQ D E sz σ [] (pI (fun r u => r = vOf (rM σ 9 i) tag f 0 ∧ u = (σ, [])))) (0) (0) (Aof σ [] sz) := by
  intro D E sz
  refine g_of (cc := cX3_valueOf) (maxL := 3) (ret := (some .int)) (own := "TradeLine$Message") (by decide) rfl rfl (Nat.le_of_ble_eq_true rfl) ?_
  intro p e s m args below meth c C hr hin hz ha hwr
  refine g_iconst (v := 0) C dX3_valueOf_0 (by decide) ?_
  refine g_istore_n (lv' := [(2, .int 0), (0, .ref (rA σ 7 i)), (1, .int tag)]) C dX3_valueOf_1 rfl (by decide) rfl ?_
  refine lo_X3_valueOf_7 C σ i tag f hf hf2 hM hR _ (fun x => ?_) (fun x h => ?_) f 0 (by omega) rfl
  · exact g_iret C hr rfl hz (stq_rfl _) ⟨rfl, rfl⟩ (fun j x h => by simp at h) dX3_valueOf_31
  · refine g_iconst (v := (-1)) C dX3_valueOf_38 (by decide) ?_
    exact g_iret C hr rfl hz (stq_rfl _) ⟨h.symm, rfl⟩ (fun j x h => by simp at h) dX3_valueOf_39
