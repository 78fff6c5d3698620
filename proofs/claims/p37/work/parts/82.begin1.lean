set_option maxHeartbeats 4000000 in
set_option maxRecDepth 100000 in
theorem c1_adopt {D : va_G} {E : Nat → ClassId} {A : Nat → Prop} {a30 a31 : Nat} {H : Heap} {x0 qa0 qa1 qa2 qa3 qa4 qa5 qa6 qa7 qb0 qb1 qb2 qb3 qb4 qb5 qb6 qb7 ql2 ql3 ql4 ql5 qf0 qf1 qq00 qq10 qq01 qq11 qq02 qq12 wg wu wv wm wc wh wj wp wz wd wo wk we wt : Nat} (hA : ∀ q ∈ ([x0, qa0, qa1, qa2, qa3, qa4, qa5, qa6, qa7, qb0, qb1, qb2, qb3, qb4, qb5, qb6, qb7, ql2, ql3, ql4, ql5, qf0, qf1, qq00, qq10, qq01, qq11, qq02, qq12, wg, wu, wv, wm, wc, wh, wj, wp, wz, wd, wo, wk, we, wt] : List Nat), A q) (h : wld D E A (c0S a30 a31) [(x0, .inr (11, [.ref qa0, .ref qb0, .ref ql2, .ref ql3, .ref ql4, .ref ql5, .ref qf0, .ref qf1, .int 0, .int 0, .int 0])), (qa0, .inr (8, [.ref qa1, .ref qa2, .ref qa6, .int 0, .int 1, .int 0, .int 0, .int 0, .int 0])), (qa1, .inr (2, [.int 0, .ref (rA (c0S a30 a31) 31 0), .int 0])), (qa2, .inr (10, [.ref qa3, .ref qa4, .ref qa5, .int 0, .int 0])), (qa3, .inl (E 0, 32, .inl (fun _ => 0))), (qa4, .inl (E 0, 32, .inl (fun _ => 0))), (qa5, .inl (E 1, 32, .inl (fun _ => 0))), (qa6, .inr (3, [.ref qa7, .int 0])), (qa7, .inl (E 0, 32, .inl (fun _ => 0))), (qb0, .inr (8, [.ref qb1, .ref qb2, .ref qb6, .int 0, .int 1, .int 0, .int 0, .int 0, .int 0])), (qb1, .inr (2, [.int 0, .ref (rA (c0S a30 a31) 31 0), .int 0])), (qb2, .inr (10, [.ref qb3, .ref qb4, .ref qb5, .int 0, .int 0])), (qb3, .inl (E 0, 32, .inl (fun _ => 0))), (qb4, .inl (E 0, 32, .inl (fun _ => 0))), (qb5, .inl (E 1, 32, .inl (fun _ => 0))), (qb6, .inr (3, [.ref qb7, .int 0])), (qb7, .inl (E 0, 32, .inl (fun _ => 0))), (ql2, .inr (2, [.int 0, .ref (rA (c0S a30 a31) 31 0), .int 0])), (ql3, .inr (2, [.int 0, .ref (rA (c0S a30 a31) 31 0), .int 0])), (ql4, .inr (2, [.int 0, .ref (rA (c0S a30 a31) 31 0), .int 0])), (ql5, .inr (2, [.int 0, .ref (rA (c0S a30 a31) 31 0), .int 0])), (qf0, .inl (E 3, 3, .inr (.inr (.inr (.inr (va_up (va_up (va_up (fun _ => none) 0 (some qq00)) 1 (some qq01)) 2 (some qq02))))))), (qf1, .inl (E 3, 3, .inr (.inr (.inr (.inr (va_up (va_up (va_up (fun _ => none) 0 (some qq10)) 1 (some qq11)) 2 (some qq12))))))), (qq00, .inr (9, [.int 0, .int 0, .int 0])), (qq10, .inr (9, [.int 0, .int 0, .int 0])), (qq01, .inr (9, [.int 1, .int 0, .int 0])), (qq11, .inr (9, [.int 1, .int 0, .int 0])), (qq02, .inr (9, [.int 2, .int 0, .int 0])), (qq12, .inr (9, [.int 2, .int 0, .int 0])), (wg, .inl (E 0, 22, .inl (fun _ => 0))), (wu, .inl (E 4, 64, .inr (.inl (fun _ => 0)))), (wv, .inl (E 4, 64, .inr (.inl (fun _ => 0)))), (wm, .inl (E 4, 64, .inr (.inl (fun _ => 0)))), (wc, .inl (E 4, 64, .inr (.inl (fun _ => 0)))), (wh, .inl (E 0, 64, .inl (fun _ => 0))), (wj, .inl (E 0, 64, .inl (fun _ => 0))), (wp, .inl (E 0, 20, .inl (fun _ => 0))), (wz, .inl (E 0, 20, .inl (fun _ => 0))), (wd, .inl (E 0, 20, .inl (fun _ => 0))), (wo, .inl (E 0, 20, .inl (fun _ => 0))), (wk, .inl (E 0, 10, .inl (fun _ => 0))), (we, .inl (E 4, 60, .inr (.inl (fun _ => 0)))), (wt, .inl (E 0, 6, .inl (fun _ => 0)))] H) : wld D E A (zS c1μ c1ν z1a (c1A a30 a31 [x0, qa0, qa1, qa2, qa3, qa4, qa5, qa6, qa7, qb0, qb1, qb2, qb3, qb4, qb5, qb6, qb7, ql2, ql3, ql4, ql5, qf0, qf1, qq00, qq10, qq01, qq11, qq02, qq12, wg, wu, wv, wm, wc, wh, wj, wp, wz, wd, wo, wk, we, wt])) [] H := by
  have key : ∀ (j k i : Nat), c1T[j]? = some (k, i) → ([(x0, .inr (11, [.ref qa0, .ref qb0, .ref ql2, .ref ql3, .ref ql4, .ref ql5, .ref qf0, .ref qf1, .int 0, .int 0, .int 0])), (qa0, .inr (8, [.ref qa1, .ref qa2, .ref qa6, .int 0, .int 1, .int 0, .int 0, .int 0, .int 0])), (qa1, .inr (2, [.int 0, .ref (rA (c0S a30 a31) 31 0), .int 0])), (qa2, .inr (10, [.ref qa3, .ref qa4, .ref qa5, .int 0, .int 0])), (qa3, .inl (E 0, 32, .inl (fun _ => 0))), (qa4, .inl (E 0, 32, .inl (fun _ => 0))), (qa5, .inl (E 1, 32, .inl (fun _ => 0))), (qa6, .inr (3, [.ref qa7, .int 0])), (qa7, .inl (E 0, 32, .inl (fun _ => 0))), (qb0, .inr (8, [.ref qb1, .ref qb2, .ref qb6, .int 0, .int 1, .int 0, .int 0, .int 0, .int 0])), (qb1, .inr (2, [.int 0, .ref (rA (c0S a30 a31) 31 0), .int 0])), (qb2, .inr (10, [.ref qb3, .ref qb4, .ref qb5, .int 0, .int 0])), (qb3, .inl (E 0, 32, .inl (fun _ => 0))), (qb4, .inl (E 0, 32, .inl (fun _ => 0))), (qb5, .inl (E 1, 32, .inl (fun _ => 0))), (qb6, .inr (3, [.ref qb7, .int 0])), (qb7, .inl (E 0, 32, .inl (fun _ => 0))), (ql2, .inr (2, [.int 0, .ref (rA (c0S a30 a31) 31 0), .int 0])), (ql3, .inr (2, [.int 0, .ref (rA (c0S a30 a31) 31 0), .int 0])), (ql4, .inr (2, [.int 0, .ref (rA (c0S a30 a31) 31 0), .int 0])), (ql5, .inr (2, [.int 0, .ref (rA (c0S a30 a31) 31 0), .int 0])), (qf0, .inl (E 3, 3, .inr (.inr (.inr (.inr (va_up (va_up (va_up (fun _ => none) 0 (some qq00)) 1 (some qq01)) 2 (some qq02))))))), (qf1, .inl (E 3, 3, .inr (.inr (.inr (.inr (va_up (va_up (va_up (fun _ => none) 0 (some qq10)) 1 (some qq11)) 2 (some qq12))))))), (qq00, .inr (9, [.int 0, .int 0, .int 0])), (qq10, .inr (9, [.int 0, .int 0, .int 0])), (qq01, .inr (9, [.int 1, .int 0, .int 0])), (qq11, .inr (9, [.int 1, .int 0, .int 0])), (qq02, .inr (9, [.int 2, .int 0, .int 0])), (qq12, .inr (9, [.int 2, .int 0, .int 0])), (wg, .inl (E 0, 22, .inl (fun _ => 0))), (wu, .inl (E 4, 64, .inr (.inl (fun _ => 0)))), (wv, .inl (E 4, 64, .inr (.inl (fun _ => 0)))), (wm, .inl (E 4, 64, .inr (.inl (fun _ => 0)))), (wc, .inl (E 4, 64, .inr (.inl (fun _ => 0)))), (wh, .inl (E 0, 64, .inl (fun _ => 0))), (wj, .inl (E 0, 64, .inl (fun _ => 0))), (wp, .inl (E 0, 20, .inl (fun _ => 0))), (wz, .inl (E 0, 20, .inl (fun _ => 0))), (wd, .inl (E 0, 20, .inl (fun _ => 0))), (wo, .inl (E 0, 20, .inl (fun _ => 0))), (wk, .inl (E 0, 10, .inl (fun _ => 0))), (we, .inl (E 4, 60, .inr (.inl (fun _ => 0)))), (wt, .inl (E 0, 6, .inl (fun _ => 0)))] : va_W)[j]? = some (rA (zS c1μ c1ν z1a (c1A a30 a31 [x0, qa0, qa1, qa2, qa3, qa4, qa5, qa6, qa7, qb0, qb1, qb2, qb3, qb4, qb5, qb6, qb7, ql2, ql3, ql4, ql5, qf0, qf1, qq00, qq10, qq01, qq11, qq02, qq12, wg, wu, wv, wm, wc, wh, wj, wp, wz, wd, wo, wk, we, wt])) k i, ct E (zS c1μ c1ν z1a (c1A a30 a31 [x0, qa0, qa1, qa2, qa3, qa4, qa5, qa6, qa7, qb0, qb1, qb2, qb3, qb4, qb5, qb6, qb7, ql2, ql3, ql4, ql5, qf0, qf1, qq00, qq10, qq01, qq11, qq02, qq12, wg, wu, wv, wm, wc, wh, wj, wp, wz, wd, wo, wk, we, wt])) k i) := fun j k i h => by
    match j, h with
    | 0, h => cases h; rfl
    | 1, h => cases h; rfl
    | 2, h => cases h; rfl
    | 3, h => cases h; rfl
    | 4, h => cases h; rfl
    | 5, h => cases h; rfl
    | 6, h => cases h; rfl
    | 7, h => cases h; rfl
    | 8, h => cases h; rfl
    | 9, h => cases h; rfl
    | 10, h => cases h; rfl
    | 11, h => cases h; rfl
    | 12, h => cases h; rfl
    | 13, h => cases h; rfl
    | 14, h => cases h; rfl
    | 15, h => cases h; rfl
    | 16, h => cases h; rfl
    | 17, h => cases h; rfl
    | 18, h => cases h; rfl
    | 19, h => cases h; rfl
    | 20, h => cases h; rfl
    | 21, h => cases h; exact congrArg (fun z => some (qf0, (Sum.inl (E 3, 3, .inr (.inr (.inr (.inr z)))) : va_E))) (q3_eq (c1A a30 a31 [x0, qa0, qa1, qa2, qa3, qa4, qa5, qa6, qa7, qb0, qb1, qb2, qb3, qb4, qb5, qb6, qb7, ql2, ql3, ql4, ql5, qf0, qf1, qq00, qq10, qq01, qq11, qq02, qq12, wg, wu, wv, wm, wc, wh, wj, wp, wz, wd, wo, wk, we, wt] 25) 0 1 2).symm
    | 22, h => cases h; exact congrArg (fun z => some (qf1, (Sum.inl (E 3, 3, .inr (.inr (.inr (.inr z)))) : va_E))) (q3_eq (c1A a30 a31 [x0, qa0, qa1, qa2, qa3, qa4, qa5, qa6, qa7, qb0, qb1, qb2, qb3, qb4, qb5, qb6, qb7, ql2, ql3, ql4, ql5, qf0, qf1, qq00, qq10, qq01, qq11, qq02, qq12, wg, wu, wv, wm, wc, wh, wj, wp, wz, wd, wo, wk, we, wt] 25) 3 4 5).symm
    | 23, h => cases h; rfl
    | 24, h => cases h; rfl
    | 25, h => cases h; rfl
    | 26, h => cases h; rfl
    | 27, h => cases h; rfl
    | 28, h => cases h; rfl
    | 29, h => cases h; rfl
    | 30, h => cases h; exact congrArg (fun z => some (wu, (Sum.inl (E 4, 64, .inr (.inl z)) : va_E))) (funext fun _ => mkL_0.symm)
    | 31, h => cases h; exact congrArg (fun z => some (wv, (Sum.inl (E 4, 64, .inr (.inl z)) : va_E))) (funext fun _ => mkL_0.symm)
    | 32, h => cases h; exact congrArg (fun z => some (wm, (Sum.inl (E 4, 64, .inr (.inl z)) : va_E))) (funext fun _ => mkL_0.symm)
    | 33, h => cases h; exact congrArg (fun z => some (wc, (Sum.inl (E 4, 64, .inr (.inl z)) : va_E))) (funext fun _ => mkL_0.symm)
    | 34, h => cases h; rfl
    | 35, h => cases h; rfl
    | 36, h => cases h; rfl
    | 37, h => cases h; rfl
    | 38, h => cases h; rfl
    | 39, h => cases h; rfl
    | 40, h => cases h; rfl
    | 41, h => cases h; exact congrArg (fun z => some (we, (Sum.inl (E 4, 60, .inr (.inl z)) : va_E))) (funext fun _ => mkL_0.symm)
    | 42, h => cases h; rfl
  refine wld_bulk c1T h (fun k i hl => ?_)
  have hk := c1_out hl.1
  rcases c1_live k hk i hl.1 with rfl | rfl | rfl | h1
  · exact absurd rfl (hl.2 rfl)
  · exact Or.inl ⟨⟨hl.1, fun e => absurd e (by decide)⟩, rfl, rfl⟩
  · exact Or.inl ⟨⟨hl.1, fun e => absurd e (by decide)⟩, rfl, rfl⟩
  · have hq := key _ _ _ h1
    refine Or.inr ⟨c1p k i, h1, hq, ?_⟩
    have hmem : rA (zS c1μ c1ν z1a (c1A a30 a31 [x0, qa0, qa1, qa2, qa3, qa4, qa5, qa6, qa7, qb0, qb1, qb2, qb3, qb4, qb5, qb6, qb7, ql2, ql3, ql4, ql5, qf0, qf1, qq00, qq10, qq01, qq11, qq02, qq12, wg, wu, wv, wm, wc, wh, wj, wp, wz, wd, wo, wk, we, wt])) k i ∈ ([x0, qa0, qa1, qa2, qa3, qa4, qa5, qa6, qa7, qb0, qb1, qb2, qb3, qb4, qb5, qb6, qb7, ql2, ql3, ql4, ql5, qf0, qf1, qq00, qq10, qq01, qq11, qq02, qq12, wg, wu, wv, wm, wc, wh, wj, wp, wz, wd, wo, wk, we, wt] : List Nat) := by
      have h9 := congrArg (Option.map Prod.fst) hq
      rw [← List.getElem?_map] at h9
      exact List.mem_of_getElem? h9
    exact hA _ hmem
set_option maxHeartbeats 4000000 in
set_option maxRecDepth 100000 in
theorem w_begin {p : Program} {l : Launch} {e : Env} {R : Room} {s : State} {m : MethodId} {args : Array Value} {below : List Frame} {meth : Method} {c : Code} {D : va_G} {E : Nat → ClassId} {A : Nat → Prop} {Q : State → Prop} {B : Nat × (Nat → Nat)} {a30 a31 b : Nat} (C : cx p s m args meth c D E A cL_law 23 "TradeLineLaw") (hEv : eV a30 a31 B A s s.heap) (hRc : 60 ≤ R.cells) (hRs : 2000 ≤ R.slots) (hRf : 40 ≤ R.frames ∧ 1000 ≤ R.locals) (kk : ∀ (Ad : Nat → Nat → Nat) (Q0 : Nat → Nat), lwQ Ad Q0 → Ad 30 0 = a30 ∧ Ad 31 0 = a31 → G p l e R s m args below meth c D E A 23 Q (zS c1μ c1ν z1a Ad) [] (60) (2000) 90 [(0, .ref b), (1, .ref (Q0 0)), (2, .ref (Q0 1)), (3, .ref (Q0 2)), (4, .ref (Q0 3)), (5, .ref (Q0 4)), (6, .ref (Q0 5)), (7, .ref (Q0 6)), (8, .ref (Q0 7)), (9, .ref (Q0 8)), (10, .ref (Q0 9)), (11, .ref (Q0 10)), (12, .ref (Q0 11)), (13, .ref (Q0 12)), (14, .ref (Q0 13)), (15, .ref (Q0 14))] []) : G p l e R s m args below meth c D E A 23 Q (c0S a30 a31) [] (0) (0) 0 [(0, .ref b)] [] := by
  refine g_new (ci := 11) C inGX8 tyX8 tyX8_ok gw_32 gw_33 gw_1 rfl (fs := [.null, .null, .null, .null, .null, .null, .null, .null, .int 0, .int 0, .int 0]) (fun j hj => match j, hj with | 0, _ => rfl | 1, _ => rfl | 2, _ => rfl | 3, _ => rfl | 4, _ => rfl | 5, _ => rfl | 6, _ => rfl | 7, _ => rfl | 8, _ => rfl | 9, _ => rfl | 10, _ => rfl | n + 11, h => absurd h (by omega)) (by omega) (by omega) dL_law_0 (fun x0 hx0 x0s => ?_)
  refine g_dup C dL_law_3 rfl ?_
  refine g_cIe (n := 0) (exc := [(x0, .inr (11, [.null, .null, .null, .null, .null, .null, .null, .null, .int 0, .int 0, .int 0]))]) (exr := []) C hEv ⟨rfl, rfl⟩ [] _ rfl rfl [0] [] rfl rfl rfl rfl (by decide) (fun q h => by simp at h; exact ⟨0, _, by rw [h]; rfl⟩) (fun q h => by simp at h; rw [h]; exact hx0) (fun sz => k_tli l B (c0S a30 a31) x0 D E sz) rfl gw_36 gw_1 gw_34 gw_35 rfl ⟨by decide +kernel, by decide +kernel, by decide +kernel⟩ ⟨rfl, rfl⟩ ⟨Nat.le_trans (Nat.le_of_ble_eq_true rfl) hRf.1, Nat.le_trans (Nat.le_of_ble_eq_true rfl) hRf.2⟩ (Nat.le_of_ble_eq_true rfl) dL_law_4 ⟨by omega, by omega⟩ (fun u hp hx => ?_)
  obtain ⟨qa0, qa1, qa2, qa3, qa4, qa5, qa6, qa7, qb0, qb1, qb2, qb3, qb4, qb5, qb6, qb7, ql2, ql3, ql4, ql5, qf0, qf1, qq00, qq10, qq01, qq11, qq02, qq12, rfl⟩ := hp
  have hqa0 := (hx 1 _ rfl).1
  have hqa1 := (hx 2 _ rfl).1
  have hqa2 := (hx 3 _ rfl).1
  have hqa3 := (hx 4 _ rfl).1
  have hqa4 := (hx 5 _ rfl).1
  have hqa5 := (hx 6 _ rfl).1
  have hqa6 := (hx 7 _ rfl).1
  have hqa7 := (hx 8 _ rfl).1
  have hqb0 := (hx 9 _ rfl).1
  have hqb1 := (hx 10 _ rfl).1
  have hqb2 := (hx 11 _ rfl).1
  have hqb3 := (hx 12 _ rfl).1
  have hqb4 := (hx 13 _ rfl).1
  have hqb5 := (hx 14 _ rfl).1
  have hqb6 := (hx 15 _ rfl).1
  have hqb7 := (hx 16 _ rfl).1
  have hql2 := (hx 17 _ rfl).1
  have hql3 := (hx 18 _ rfl).1
  have hql4 := (hx 19 _ rfl).1
  have hql5 := (hx 20 _ rfl).1
  have hqf0 := (hx 21 _ rfl).1
  have hqf1 := (hx 22 _ rfl).1
  have hqq00 := (hx 23 _ rfl).1
  have hqq10 := (hx 24 _ rfl).1
  have hqq01 := (hx 25 _ rfl).1
  have hqq11 := (hx 26 _ rfl).1
  have hqq02 := (hx 27 _ rfl).1
  have hqq12 := (hx 28 _ rfl).1
  clear hx
  refine g_ex (ex' := [(x0, .inr (11, [.ref qa0, .ref qb0, .ref ql2, .ref ql3, .ref ql4, .ref ql5, .ref qf0, .ref qf1, .int 0, .int 0, .int 0])), (qa0, .inr (8, [.ref qa1, .ref qa2, .ref qa6, .int 0, .int 1, .int 0, .int 0, .int 0, .int 0])), (qa1, .inr (2, [.int 0, .ref (rA (c0S a30 a31) 31 0), .int 0])), (qa2, .inr (10, [.ref qa3, .ref qa4, .ref qa5, .int 0, .int 0])), (qa3, .inl (E 0, 32, .inl (fun _ => 0))), (qa4, .inl (E 0, 32, .inl (fun _ => 0))), (qa5, .inl (E 1, 32, .inl (fun _ => 0))), (qa6, .inr (3, [.ref qa7, .int 0])), (qa7, .inl (E 0, 32, .inl (fun _ => 0))), (qb0, .inr (8, [.ref qb1, .ref qb2, .ref qb6, .int 0, .int 1, .int 0, .int 0, .int 0, .int 0])), (qb1, .inr (2, [.int 0, .ref (rA (c0S a30 a31) 31 0), .int 0])), (qb2, .inr (10, [.ref qb3, .ref qb4, .ref qb5, .int 0, .int 0])), (qb3, .inl (E 0, 32, .inl (fun _ => 0))), (qb4, .inl (E 0, 32, .inl (fun _ => 0))), (qb5, .inl (E 1, 32, .inl (fun _ => 0))), (qb6, .inr (3, [.ref qb7, .int 0])), (qb7, .inl (E 0, 32, .inl (fun _ => 0))), (ql2, .inr (2, [.int 0, .ref (rA (c0S a30 a31) 31 0), .int 0])), (ql3, .inr (2, [.int 0, .ref (rA (c0S a30 a31) 31 0), .int 0])), (ql4, .inr (2, [.int 0, .ref (rA (c0S a30 a31) 31 0), .int 0])), (ql5, .inr (2, [.int 0, .ref (rA (c0S a30 a31) 31 0), .int 0])), (qf0, .inl (E 3, 3, .inr (.inr (.inr (.inr (va_up (va_up (va_up (fun _ => none) 0 (some qq00)) 1 (some qq01)) 2 (some qq02))))))), (qf1, .inl (E 3, 3, .inr (.inr (.inr (.inr (va_up (va_up (va_up (fun _ => none) 0 (some qq10)) 1 (some qq11)) 2 (some qq12))))))), (qq00, .inr (9, [.int 0, .int 0, .int 0])), (qq10, .inr (9, [.int 0, .int 0, .int 0])), (qq01, .inr (9, [.int 1, .int 0, .int 0])), (qq11, .inr (9, [.int 1, .int 0, .int 0])), (qq02, .inr (9, [.int 2, .int 0, .int 0])), (qq12, .inr (9, [.int 2, .int 0, .int 0]))]) [0, 1, 2, 3, 4, 5, 6, 7, 8, 9, 10, 11, 12, 13, 14, 15, 16, 17, 18, 19, 20, 21, 22, 23, 24, 25, 26, 27, 28] rfl rfl ?_
  refine g_astore_n (lv' := [(1, .ref x0), (0, .ref b)]) C dL_law_7 rfl (by decide) rfl ?_
  refine g_bipush (v := (22 : Int32)) C dL_law_8 (by decide) ?_
  refine g_newa (atype := .int) (ty := .int) (t := 0) (N' := 22) (a0 := (22, .inl (fun _ => 0))) C gw_95 rfl rfl (fun _ h => by cases h) (fun _ => rfl) (by decide) (by decide) (by decide) (by omega) (by omega) dL_law_10 (fun wg hwg wsg => ?_)
  refine g_astore_n (lv' := [(2, .ref wg), (1, .ref x0), (0, .ref b)]) C dL_law_12 rfl (by decide) rfl ?_
  refine g_bipush (v := (64 : Int32)) C dL_law_13 (by decide) ?_
  refine g_newa (atype := .long) (ty := .long) (t := 4) (N' := 64) (a0 := (64, .inr (.inl (fun _ => 0)))) C gw_1406 rfl rfl (fun _ h => by cases h) (fun _ => rfl) (by decide) (by decide) (by decide) (by omega) (by omega) dL_law_15 (fun wu hwu wsu => ?_)
  refine g_astore_n (lv' := [(3, .ref wu), (2, .ref wg), (1, .ref x0), (0, .ref b)]) C dL_law_17 rfl (by decide) rfl ?_
  refine g_bipush (v := (64 : Int32)) C dL_law_18 (by decide) ?_
  refine g_newa (atype := .long) (ty := .long) (t := 4) (N' := 64) (a0 := (64, .inr (.inl (fun _ => 0)))) C gw_1406 rfl rfl (fun _ h => by cases h) (fun _ => rfl) (by decide) (by decide) (by decide) (by omega) (by omega) dL_law_20 (fun wv hwv wsv => ?_)
  refine g_astore (lv' := [(4, .ref wv), (3, .ref wu), (2, .ref wg), (1, .ref x0), (0, .ref b)]) C dL_law_22 (by decide) rfl ?_
  refine g_bipush (v := (64 : Int32)) C dL_law_24 (by decide) ?_
  refine g_newa (atype := .long) (ty := .long) (t := 4) (N' := 64) (a0 := (64, .inr (.inl (fun _ => 0)))) C gw_1406 rfl rfl (fun _ h => by cases h) (fun _ => rfl) (by decide) (by decide) (by decide) (by omega) (by omega) dL_law_26 (fun wm hwm wsm => ?_)
  refine g_astore (lv' := [(5, .ref wm), (4, .ref wv), (3, .ref wu), (2, .ref wg), (1, .ref x0), (0, .ref b)]) C dL_law_28 (by decide) rfl ?_
  refine g_bipush (v := (64 : Int32)) C dL_law_30 (by decide) ?_
  refine g_newa (atype := .long) (ty := .long) (t := 4) (N' := 64) (a0 := (64, .inr (.inl (fun _ => 0)))) C gw_1406 rfl rfl (fun _ h => by cases h) (fun _ => rfl) (by decide) (by decide) (by decide) (by omega) (by omega) dL_law_32 (fun wc hwc wsc => ?_)
  refine g_astore (lv' := [(6, .ref wc), (5, .ref wm), (4, .ref wv), (3, .ref wu), (2, .ref wg), (1, .ref x0), (0, .ref b)]) C dL_law_34 (by decide) rfl ?_
  refine g_bipush (v := (64 : Int32)) C dL_law_36 (by decide) ?_
  refine g_newa (atype := .int) (ty := .int) (t := 0) (N' := 64) (a0 := (64, .inl (fun _ => 0))) C gw_95 rfl rfl (fun _ h => by cases h) (fun _ => rfl) (by decide) (by decide) (by decide) (by omega) (by omega) dL_law_38 (fun wh hwh wsh => ?_)
  refine g_astore (lv' := [(7, .ref wh), (6, .ref wc), (5, .ref wm), (4, .ref wv), (3, .ref wu), (2, .ref wg), (1, .ref x0), (0, .ref b)]) C dL_law_40 (by decide) rfl ?_
  refine g_bipush (v := (64 : Int32)) C dL_law_42 (by decide) ?_
  refine g_newa (atype := .int) (ty := .int) (t := 0) (N' := 64) (a0 := (64, .inl (fun _ => 0))) C gw_95 rfl rfl (fun _ h => by cases h) (fun _ => rfl) (by decide) (by decide) (by decide) (by omega) (by omega) dL_law_44 (fun wj hwj wsj => ?_)
  refine g_astore (lv' := [(8, .ref wj), (7, .ref wh), (6, .ref wc), (5, .ref wm), (4, .ref wv), (3, .ref wu), (2, .ref wg), (1, .ref x0), (0, .ref b)]) C dL_law_46 (by decide) rfl ?_
  refine g_bipush (v := (20 : Int32)) C dL_law_48 (by decide) ?_
  refine g_newa (atype := .int) (ty := .int) (t := 0) (N' := 20) (a0 := (20, .inl (fun _ => 0))) C gw_95 rfl rfl (fun _ h => by cases h) (fun _ => rfl) (by decide) (by decide) (by decide) (by omega) (by omega) dL_law_50 (fun wp hwp wsp => ?_)
  refine g_astore (lv' := [(9, .ref wp), (8, .ref wj), (7, .ref wh), (6, .ref wc), (5, .ref wm), (4, .ref wv), (3, .ref wu), (2, .ref wg), (1, .ref x0), (0, .ref b)]) C dL_law_52 (by decide) rfl ?_
  refine g_bipush (v := (20 : Int32)) C dL_law_54 (by decide) ?_
  refine g_newa (atype := .int) (ty := .int) (t := 0) (N' := 20) (a0 := (20, .inl (fun _ => 0))) C gw_95 rfl rfl (fun _ h => by cases h) (fun _ => rfl) (by decide) (by decide) (by decide) (by omega) (by omega) dL_law_56 (fun wz hwz wsz => ?_)
  refine g_astore (lv' := [(10, .ref wz), (9, .ref wp), (8, .ref wj), (7, .ref wh), (6, .ref wc), (5, .ref wm), (4, .ref wv), (3, .ref wu), (2, .ref wg), (1, .ref x0), (0, .ref b)]) C dL_law_58 (by decide) rfl ?_
  refine g_bipush (v := (20 : Int32)) C dL_law_60 (by decide) ?_
  refine g_newa (atype := .int) (ty := .int) (t := 0) (N' := 20) (a0 := (20, .inl (fun _ => 0))) C gw_95 rfl rfl (fun _ h => by cases h) (fun _ => rfl) (by decide) (by decide) (by decide) (by omega) (by omega) dL_law_62 (fun wd hwd wsd => ?_)
  refine g_astore (lv' := [(11, .ref wd), (10, .ref wz), (9, .ref wp), (8, .ref wj), (7, .ref wh), (6, .ref wc), (5, .ref wm), (4, .ref wv), (3, .ref wu), (2, .ref wg), (1, .ref x0), (0, .ref b)]) C dL_law_64 (by decide) rfl ?_
  refine g_bipush (v := (20 : Int32)) C dL_law_66 (by decide) ?_
  refine g_newa (atype := .int) (ty := .int) (t := 0) (N' := 20) (a0 := (20, .inl (fun _ => 0))) C gw_95 rfl rfl (fun _ h => by cases h) (fun _ => rfl) (by decide) (by decide) (by decide) (by omega) (by omega) dL_law_68 (fun wo hwo wso => ?_)
  refine g_astore (lv' := [(12, .ref wo), (11, .ref wd), (10, .ref wz), (9, .ref wp), (8, .ref wj), (7, .ref wh), (6, .ref wc), (5, .ref wm), (4, .ref wv), (3, .ref wu), (2, .ref wg), (1, .ref x0), (0, .ref b)]) C dL_law_70 (by decide) rfl ?_
  refine g_bipush (v := (10 : Int32)) C dL_law_72 (by decide) ?_
  refine g_newa (atype := .int) (ty := .int) (t := 0) (N' := 10) (a0 := (10, .inl (fun _ => 0))) C gw_95 rfl rfl (fun _ h => by cases h) (fun _ => rfl) (by decide) (by decide) (by decide) (by omega) (by omega) dL_law_74 (fun wk hwk wsk => ?_)
  refine g_astore (lv' := [(13, .ref wk), (12, .ref wo), (11, .ref wd), (10, .ref wz), (9, .ref wp), (8, .ref wj), (7, .ref wh), (6, .ref wc), (5, .ref wm), (4, .ref wv), (3, .ref wu), (2, .ref wg), (1, .ref x0), (0, .ref b)]) C dL_law_76 (by decide) rfl ?_
  refine g_bipush (v := (60 : Int32)) C dL_law_78 (by decide) ?_
  refine g_newa (atype := .long) (ty := .long) (t := 4) (N' := 60) (a0 := (60, .inr (.inl (fun _ => 0)))) C gw_1406 rfl rfl (fun _ h => by cases h) (fun _ => rfl) (by decide) (by decide) (by decide) (by omega) (by omega) dL_law_80 (fun we hwe wse => ?_)
  refine g_astore (lv' := [(14, .ref we), (13, .ref wk), (12, .ref wo), (11, .ref wd), (10, .ref wz), (9, .ref wp), (8, .ref wj), (7, .ref wh), (6, .ref wc), (5, .ref wm), (4, .ref wv), (3, .ref wu), (2, .ref wg), (1, .ref x0), (0, .ref b)]) C dL_law_82 (by decide) rfl ?_
  refine g_bipush (v := (6 : Int32)) C dL_law_84 (by decide) ?_
  refine g_newa (atype := .int) (ty := .int) (t := 0) (N' := 6) (a0 := (6, .inl (fun _ => 0))) C gw_95 rfl rfl (fun _ h => by cases h) (fun _ => rfl) (by decide) (by decide) (by decide) (by omega) (by omega) dL_law_86 (fun wt hwt wst => ?_)
  refine g_astore (lv' := [(15, .ref wt), (14, .ref we), (13, .ref wk), (12, .ref wo), (11, .ref wd), (10, .ref wz), (9, .ref wp), (8, .ref wj), (7, .ref wh), (6, .ref wc), (5, .ref wm), (4, .ref wv), (3, .ref wu), (2, .ref wg), (1, .ref x0), (0, .ref b)]) C dL_law_88 (by decide) rfl ?_
  refine g_lv (lv' := [(0, .ref b), (1, .ref x0), (2, .ref wg), (3, .ref wu), (4, .ref wv), (5, .ref wm), (6, .ref wc), (7, .ref wh), (8, .ref wj), (9, .ref wp), (10, .ref wz), (11, .ref wd), (12, .ref wo), (13, .ref wk), (14, .ref we), (15, .ref wt)]) [15, 14, 13, 12, 11, 10, 9, 8, 7, 6, 5, 4, 3, 2, 1, 0] rfl ?_
  refine g_widen (k := 60) (n := 2000) (by omega) (by omega) ?_
  have hA : ∀ q ∈ ([x0, qa0, qa1, qa2, qa3, qa4, qa5, qa6, qa7, qb0, qb1, qb2, qb3, qb4, qb5, qb6, qb7, ql2, ql3, ql4, ql5, qf0, qf1, qq00, qq10, qq01, qq11, qq02, qq12, wg, wu, wv, wm, wc, wh, wj, wp, wz, wd, wo, wk, we, wt] : List Nat), A q := (List.forall_mem_cons.mpr ⟨hx0, (List.forall_mem_cons.mpr ⟨hqa0, (List.forall_mem_cons.mpr ⟨hqa1, (List.forall_mem_cons.mpr ⟨hqa2, (List.forall_mem_cons.mpr ⟨hqa3, (List.forall_mem_cons.mpr ⟨hqa4, (List.forall_mem_cons.mpr ⟨hqa5, (List.forall_mem_cons.mpr ⟨hqa6, (List.forall_mem_cons.mpr ⟨hqa7, (List.forall_mem_cons.mpr ⟨hqb0, (List.forall_mem_cons.mpr ⟨hqb1, (List.forall_mem_cons.mpr ⟨hqb2, (List.forall_mem_cons.mpr ⟨hqb3, (List.forall_mem_cons.mpr ⟨hqb4, (List.forall_mem_cons.mpr ⟨hqb5, (List.forall_mem_cons.mpr ⟨hqb6, (List.forall_mem_cons.mpr ⟨hqb7, (List.forall_mem_cons.mpr ⟨hql2, (List.forall_mem_cons.mpr ⟨hql3, (List.forall_mem_cons.mpr ⟨hql4, (List.forall_mem_cons.mpr ⟨hql5, (List.forall_mem_cons.mpr ⟨hqf0, (List.forall_mem_cons.mpr ⟨hqf1, (List.forall_mem_cons.mpr ⟨hqq00, (List.forall_mem_cons.mpr ⟨hqq10, (List.forall_mem_cons.mpr ⟨hqq01, (List.forall_mem_cons.mpr ⟨hqq11, (List.forall_mem_cons.mpr ⟨hqq02, (List.forall_mem_cons.mpr ⟨hqq12, (List.forall_mem_cons.mpr ⟨hwg, (List.forall_mem_cons.mpr ⟨hwu, (List.forall_mem_cons.mpr ⟨hwv, (List.forall_mem_cons.mpr ⟨hwm, (List.forall_mem_cons.mpr ⟨hwc, (List.forall_mem_cons.mpr ⟨hwh, (List.forall_mem_cons.mpr ⟨hwj, (List.forall_mem_cons.mpr ⟨hwp, (List.forall_mem_cons.mpr ⟨hwz, (List.forall_mem_cons.mpr ⟨hwd, (List.forall_mem_cons.mpr ⟨hwo, (List.forall_mem_cons.mpr ⟨hwk, (List.forall_mem_cons.mpr ⟨hwe, (List.forall_mem_cons.mpr ⟨hwt, (fun _ h => absurd h List.not_mem_nil)⟩)⟩)⟩)⟩)⟩)⟩)⟩)⟩)⟩)⟩)⟩)⟩)⟩)⟩)⟩)⟩)⟩)⟩)⟩)⟩)⟩)⟩)⟩)⟩)⟩)⟩)⟩)⟩)⟩)⟩)⟩)⟩)⟩)⟩)⟩)⟩)⟩)⟩)⟩)⟩)⟩)⟩)⟩)
  exact fun H locs ls hw hs hl => kk (c1A a30 a31 [x0, qa0, qa1, qa2, qa3, qa4, qa5, qa6, qa7, qb0, qb1, qb2, qb3, qb4, qb5, qb6, qb7, ql2, ql3, ql4, ql5, qf0, qf1, qq00, qq10, qq01, qq11, qq02, qq12, wg, wu, wv, wm, wc, wh, wj, wp, wz, wd, wo, wk, we, wt]) (fun j => match j with | 0 => x0 | 1 => wg | 2 => wu | 3 => wv | 4 => wm | 5 => wc | 6 => wh | 7 => wj | 8 => wp | 9 => wz | 10 => wd | 11 => wo | 12 => wk | 13 => we | 14 => wt | _ => 0) ⟨rfl, by
    intro q hq
    have hq2 : q ∈ ([(1, 22), (6, 64), (7, 64), (8, 20), (9, 20), (10, 20), (11, 20), (12, 10), (14, 6), (2, 64), (3, 64), (4, 64), (5, 64), (13, 60)] : List (Nat × Nat)) := hq
    simp only [List.mem_cons, List.not_mem_nil, or_false] at hq2
    rcases hq2 with rfl | rfl | rfl | rfl | rfl | rfl | rfl | rfl | rfl | rfl | rfl | rfl | rfl | rfl <;> rfl⟩ ⟨rfl, rfl⟩ H locs ls (c1_adopt hA hw) hs hl
