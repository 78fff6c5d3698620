set_option maxHeartbeats 4000000 in
set_option maxRecDepth 100000 in
/-- a longer copy of a row of ints -/
theorem k_copyOf_l (l : Launch) (σ : RS) (a0 n0 N : Nat) (f : Nat → Int32) (hlt : n0 < N) (hN : N ≤ 8388608) : ∀ D E sz, Met l yJ7_copyOf_59c91 gwJ7_copyOf_59c91 ({ frames := 1, cells := 1, slots := N, locals := 18 } : Room) (cP D E sz σ [(a0, .inl (E 0, n0, .inl f))] [.ref a0, .int (nI N)]) (cQ D E sz σ [] (pQ (fun r u => ∃ q, r = .ref q ∧ u = (σ, [(q, .inl (E 0, N, .inl (va_cpy f (fun _ => 0) 0 0 n0)))])))) (1) (N) (Aof σ [] sz) := by
  intro D E sz
  refine g_of (cc := cJ7_copyOf_59c91) (maxL := 3) (ret := (some (.array .int))) (own := "java/util/Arrays") (by decide) rfl rfl (Nat.le_of_ble_eq_true rfl) ?_
  intro p e s m args below meth c C hr hin hz ha hwr
  refine g_iload_n C dJ7_copyOf_59c91_0 rfl 1 rfl ?_
  refine g_aload_n C dJ7_copyOf_59c91_1 rfl 0 rfl ?_
  refine g_alenL (t0 := 0) (v := nI n0) C 0 rfl rfl rfl dJ7_copyOf_59c91_2 ?_
  refine g_icmp_ne (tgt := 14) C dJ7_copyOf_59c91_3 (by decide) (fun c3 => ?_) (fun c3 => ?_)
  · skip
    refine g_iload_n C dJ7_copyOf_59c91_14 rfl 1 rfl ?_
    refine g_newa (atype := .int) (ty := .int) (t := 0) (N' := N) (a0 := (N, .inl (fun _ => 0))) C gw_95 rfl rfl (fun _ h => by cases h) (fun _ => rfl) (nI_pos (by omega)) (nI_clamp (by omega)) (by show N * 4 ≤ _; omega) (Nat.le_of_ble_eq_true rfl) (by show 0 + N ≤ N; omega) dJ7_copyOf_59c91_15 (fun q hq hqs => ?_)
    refine g_astore_n (lv' := [(2, .ref q), (0, .ref a0), (1, .int (nI N))]) C dJ7_copyOf_59c91_17 rfl (by decide) rfl ?_
    refine g_aload_n C dJ7_copyOf_59c91_18 rfl 1 rfl ?_
    refine g_iconst (v := 0) C dJ7_copyOf_59c91_19 (by decide) ?_
    refine g_aload_n C dJ7_copyOf_59c91_20 rfl 0 rfl ?_
    refine g_iconst (v := 0) C dJ7_copyOf_59c91_21 (by decide) ?_
    refine g_aload_n C dJ7_copyOf_59c91_22 rfl 1 rfl ?_
    refine g_alenL (t0 := 0) (v := nI n0) C 0 rfl rfl rfl dJ7_copyOf_59c91_23 ?_
    refine g_iload_n C dJ7_copyOf_59c91_24 rfl 2 rfl ?_
    refine g_mmin C gw_326 gw_327 gw_19 gw_328 (Nat.le_of_ble_eq_true rfl) (Nat.le_of_ble_eq_true rfl) (Nat.le_of_ble_eq_true rfl) (by show 0 + N ≤ N; omega) dJ7_copyOf_59c91_25 ?_
    rw [if_neg (nI_nlt (by omega) (by omega))]
    refine g_copyi (f := f) (n0 := n0) C gw_329 gw_331 gw_330 gw_20 (Or.inr ⟨0, rfl⟩) 1 rfl hq (by decide) (by decide) (nI_pos (by omega)) (by rw [sb_cl0, nI_clamp (by omega)]; omega) (by rw [sb_cl0, nI_clamp (by omega)]; omega) (Nat.le_of_ble_eq_true rfl) (Nat.le_of_ble_eq_true rfl) (ex' := [(a0, .inl (E 0, n0, .inl f)), (q, .inl (E 0, N, .inl (va_cpy f (fun _ => 0) 0 0 n0)))]) (by rw [sb_cl0, nI_clamp (by omega)]; rfl) dJ7_copyOf_59c91_28 ?_
    refine g_ex (ex' := [(q, .inl (E 0, N, .inl (va_cpy f (fun _ => 0) 0 0 n0)))]) [1] rfl rfl ?_
    refine g_widen (k := 1) (n := N) (by omega) (by omega) ?_
    refine g_aload_n C dJ7_copyOf_59c91_31 rfl 0 rfl ?_
    exact g_aret C hr (Or.inr ⟨_, rfl⟩) (Or.inr ⟨_, rfl⟩) hz (stq_rfl _) (⟨q, rfl, rfl⟩) (fun j x h => by match j, h with | 0, h => cases h; exact Or.inr hqs) dJ7_copyOf_59c91_32
  · exact absurd c3 (fun h => by rw [nI_eq (by omega) (by omega)] at h; omega)
set_option maxHeartbeats 4000000 in
set_option maxRecDepth 100000 in
/-- a longer copy of a row of ints -/
theorem k_copyOf_13 (l : Launch) (σ : RS) (t n0 N : Nat) (hn0 : rN σ 13 t = n0) (l13 : live σ 13 t) (hlt : n0 < N) (hN : N ≤ 8388608) : ∀ D E sz, Met l yJ7_copyOf_59c91 gwJ7_copyOf_59c91 ({ frames := 1, cells := 1, slots := N, locals := 18 } : Room) (cP D E sz σ [] [.ref (rA σ 13 t), .int (nI N)]) (cQ D E sz σ [] (pQ (fun r u => ∃ q, r = .ref q ∧ u = (σ, [(q, .inl (E 0, N, .inl (va_cpy (rM σ 13 t) (fun _ => 0) 0 0 n0)))])))) (1) (N) (Aof σ [] sz) := by
  intro D E sz
  refine g_of (cc := cJ7_copyOf_59c91) (maxL := 3) (ret := (some (.array .int))) (own := "java/util/Arrays") (by decide) rfl rfl (Nat.le_of_ble_eq_true rfl) ?_
  intro p e s m args below meth c C hr hin hz ha hwr
  subst hn0
  refine g_iload_n C dJ7_copyOf_59c91_0 rfl 1 rfl ?_
  refine g_aload_n C dJ7_copyOf_59c91_1 rfl 0 rfl ?_
  refine g_alen (k := 13) (i := t) C (by exact rfl) (by exact l13) (by decide) rfl dJ7_copyOf_59c91_2 ?_
  refine g_icmp_ne (tgt := 14) C dJ7_copyOf_59c91_3 (by decide) (fun c3 => ?_) (fun c3 => ?_)
  · skip
    refine g_iload_n C dJ7_copyOf_59c91_14 rfl 1 rfl ?_
    refine g_newa (atype := .int) (ty := .int) (t := 0) (N' := N) (a0 := (N, .inl (fun _ => 0))) C gw_95 rfl rfl (fun _ h => by cases h) (fun _ => rfl) (nI_pos (by omega)) (nI_clamp (by omega)) (by show N * 4 ≤ _; omega) (Nat.le_of_ble_eq_true rfl) (by show 0 + N ≤ N; omega) dJ7_copyOf_59c91_15 (fun q hq hqs => ?_)
    refine g_astore_n (lv' := [(2, .ref q), (0, .ref (rA σ 13 t)), (1, .int (nI N))]) C dJ7_copyOf_59c91_17 rfl (by decide) rfl ?_
    refine g_aload_n C dJ7_copyOf_59c91_18 rfl 1 rfl ?_
    refine g_iconst (v := 0) C dJ7_copyOf_59c91_19 (by decide) ?_
    refine g_aload_n C dJ7_copyOf_59c91_20 rfl 0 rfl ?_
    refine g_iconst (v := 0) C dJ7_copyOf_59c91_21 (by decide) ?_
    refine g_aload_n C dJ7_copyOf_59c91_22 rfl 1 rfl ?_
    refine g_alen (k := 13) (i := t) C (by exact rfl) (by exact l13) (by decide) rfl dJ7_copyOf_59c91_23 ?_
    refine g_iload_n C dJ7_copyOf_59c91_24 rfl 2 rfl ?_
    refine g_mmin C gw_326 gw_327 gw_19 gw_328 (Nat.le_of_ble_eq_true rfl) (Nat.le_of_ble_eq_true rfl) (Nat.le_of_ble_eq_true rfl) (by show 0 + N ≤ N; omega) dJ7_copyOf_59c91_25 ?_
    rw [if_neg (nI_nlt (by omega) (by omega))]
    refine g_copyi (f := (rM σ 13 t)) (n0 := (rN σ 13 t)) C gw_329 gw_331 gw_330 gw_20 (Or.inl ⟨13, t, l13, rfl, ct_ia rfl⟩) 0 rfl hq (by decide) (by decide) (nI_pos (by omega)) (by rw [sb_cl0, nI_clamp (by omega)]; omega) (by rw [sb_cl0, nI_clamp (by omega)]; omega) (Nat.le_of_ble_eq_true rfl) (Nat.le_of_ble_eq_true rfl) (ex' := [(q, .inl (E 0, N, .inl (va_cpy (rM σ 13 t) (fun _ => 0) 0 0 (rN σ 13 t))))]) (by rw [sb_cl0, nI_clamp (by omega)]; rfl) dJ7_copyOf_59c91_28 ?_
    refine g_widen (k := 1) (n := N) (by omega) (by omega) ?_
    refine g_aload_n C dJ7_copyOf_59c91_31 rfl 0 rfl ?_
    exact g_aret C hr (Or.inr ⟨_, rfl⟩) (Or.inr ⟨_, rfl⟩) hz (stq_rfl _) (⟨q, rfl, rfl⟩) (fun j x h => by match j, h with | 0, h => cases h; exact Or.inr hqs) dJ7_copyOf_59c91_32
  · exact absurd c3 (fun h => by rw [nI_eq (by omega) (by omega)] at h; omega)
