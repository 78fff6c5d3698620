/-! THE ENTRY: what the Statement's words say of the start, in the words of the walk. -/
theorem inT {w : Cond} (i : Nat) (h : tables_1[i]? = some w) : w ∈ lw_tbl := List.mem_append_right _ (List.mem_of_getElem? h)
theorem inF {w : Cond} (i : Nat) (h : (flatC (Jvm.Cond.and given_1 narrow_1))[i]? = some w) : w ∈ flatC (Jvm.Cond.and given_1 narrow_1) := List.mem_of_getElem? h
theorem len0 {args : Array Value} {s : State} {t : Term} {a : Nat} {cell : Cell} (h : (Cond.eq (.length t) (.int 0)).before args s = true) (ht : t.eval args s none [] s = some (.ref a)) (hc : s.heap[a]? = some cell) : cell.slots.size = 0 := by
  obtain ⟨y, y1, y2⟩ := Cond.eq_one (show (Cond.eq (.length t) (.int 0)).holds args s none s [] = true from h)
  simp only [Term.eval, Option.bind_eq_bind, ht, Option.bind_some] at y1
  obtain ⟨cell', hc', y1⟩ := Option.bind_eq_some_iff.mp y1
  obtain ⟨h0, -, -, -⟩ := State.arrayAt?_spec hc'
  obtain rfl : cell' = cell := Option.some.inj (h0.symm.trans hc)
  by_cases hn : cell'.slots.size < 2147483648
  · rw [if_pos hn] at y1
    have h3 : (Value.int 0) = y := Option.some.inj y2
    subst h3
    have h4 : cell'.slots.size.toInt32 = 0 := by injection (Option.some.inj y1)
    have h5 : (nI cell'.slots.size).toInt = 0 := by rw [show nI cell'.slots.size = 0 from h4]; rfl
    rw [nI_toInt (by omega)] at h5
    omega
  · rw [if_neg hn] at y1; cases y1
theorem arr_of {args : Array Value} {s : State} {ty : FieldType} {c comp : ClassId} {k : Class} (hk : s.vm.classes[c]? = some k) (hd : k.kind = .array comp ty) : ArrOfT s c ty := fun n z => ⟨fun z h => (by cases h), k, hk, comp, hd⟩
theorem e_GT {s : State} {b : Nat} (hts : ∀ w ∈ lw_tbl, w.before #[Value.ref b] s = true) : ∀ w ∈ GT, w.before #[Value.ref b] s = true := fun w h => hts w (List.mem_filter.mp h).1
theorem e_cls {s : State} {b : Nat} (hts : ∀ w ∈ lw_tbl, w.before #[Value.ref b] s = true) : ∃ D : va_G, ∀ (k : Nat) (q : vw_C), vwCl[k]? = some q → u_Kn s q.1 q.2.1 q.2.2 (D.1 k) (D.2 k) := by
  have hg := e_GT hts
  have h : ∀ k : Nat, ∃ z : ClassId × (Nat → Nat), ∀ q : vw_C, vwCl[k]? = some q → u_Kn s q.1 q.2.1 q.2.2 z.1 z.2 := fun k => by
    match k with
    | 0 => obtain ⟨c, i, hk⟩ := u_known hg inGJ0 (hg _ gw_800); exact ⟨(c, i), fun q hq => by cases hq; exact hk⟩
    | 1 => obtain ⟨c, i, hk⟩ := u_known hg inGJ4 (hg _ gw_635); exact ⟨(c, i), fun q hq => by cases hq; exact hk⟩
    | 2 => obtain ⟨c, i, hk⟩ := u_known hg inGJx4a65c (hg _ gw_47); exact ⟨(c, i), fun q hq => by cases hq; exact hk⟩
    | 3 => obtain ⟨c, i, hk⟩ := u_known hg inGX0 (hg _ gw_98); exact ⟨(c, i), fun q hq => by cases hq; exact hk⟩
    | 4 => obtain ⟨c, i, hk⟩ := u_known hg inGX1 (hg _ gw_1084); exact ⟨(c, i), fun q hq => by cases hq; exact hk⟩
    | 5 => obtain ⟨c, i, hk⟩ := u_known hg inGX2 (hg _ gw_894); exact ⟨(c, i), fun q hq => by cases hq; exact hk⟩
    | 6 => obtain ⟨c, i, hk⟩ := u_known hg inGX3 (hg _ gw_311); exact ⟨(c, i), fun q hq => by cases hq; exact hk⟩
    | 7 => obtain ⟨c, i, hk⟩ := u_known hg inGX4 (hg _ gw_1078); exact ⟨(c, i), fun q hq => by cases hq; exact hk⟩
    | 8 => obtain ⟨c, i, hk⟩ := u_known hg inGX5 (hg _ gw_41); exact ⟨(c, i), fun q hq => by cases hq; exact hk⟩
    | 9 => obtain ⟨c, i, hk⟩ := u_known hg inGX6 (hg _ gw_149); exact ⟨(c, i), fun q hq => by cases hq; exact hk⟩
    | 10 => obtain ⟨c, i, hk⟩ := u_known hg inGX7 (hg _ gw_73); exact ⟨(c, i), fun q hq => by cases hq; exact hk⟩
    | 11 => obtain ⟨c, i, hk⟩ := u_known hg inGX8 (hg _ gw_33); exact ⟨(c, i), fun q hq => by cases hq; exact hk⟩
    | k + 12 => exact ⟨(0, fun _ => 0), fun q hq => absurd hq (by simp [vwCl])⟩
  obtain ⟨f, hf⟩ := Classical.axiomOfChoice h
  exact ⟨(fun k => (f k).1, fun k => (f k).2), fun k q hq => hf k q hq⟩
theorem e_arr {s : State} {b : Nat} (hts : ∀ w ∈ lw_tbl, w.before #[Value.ref b] s = true) : ∃ E : Nat → ClassId, (∀ (k : Nat) (q : ClassId × FieldType), (tysE E)[k]? = some q → ArrOfT s q.1 q.2 ∧ va_RA s q.1 q.2) ∧ s.vm.findClass "[I" = some (E 0) ∧ s.vm.findClass "[Ljava/lang/Object;" = some (E 2) ∧ E 0 ≠ E 2 := by
  obtain ⟨c0, k0, m0, h0f, h0k, h0d⟩ := Cond.arrayClass_spec (show (Cond.arrayClass .int).holds #[Value.ref b] s none s [] = true from (hts _ (inT 95 (by decide +kernel))))
  obtain ⟨c1, k1, m1, h1f, h1k, h1d⟩ := Cond.arrayClass_spec (show (Cond.arrayClass .boolean).holds #[Value.ref b] s none s [] = true from (hts _ (inT 96 (by decide +kernel))))
  obtain ⟨m2, c2, k2, h2m, -, h2k, h2d, h2f⟩ := Cond.arrayOver_spec (show (Cond.arrayOver (.object "java/lang/Object")).holds #[Value.ref b] s none s [] = true from (hts _ (inT 403 (by decide +kernel))))
  obtain ⟨m3, c3, k3, h3m, -, h3k, h3d, h3f⟩ := Cond.arrayOver_spec (show (Cond.arrayOver (.object "TradeLine$Quote")).holds #[Value.ref b] s none s [] = true from (hts _ (inT 148 (by decide +kernel))))
  obtain ⟨c4, k4, m4, h4f, h4k, h4d⟩ := Cond.arrayClass_spec (show (Cond.arrayClass .long).holds #[Value.ref b] s none s [] = true from (hts _ (inT 1406 (by decide +kernel))))
  refine ⟨fun i => match i with | 0 => c0 | 1 => c1 | 2 => c2 | 3 => c3 | _ => c4, ?_, h0f, h2f, ?_⟩
  · intro k q hq
    match k, hq with
    | 0, hq => cases hq; exact ⟨arr_of (args := #[]) h0k h0d, h0f⟩
    | 1, hq => cases hq; exact ⟨arr_of (args := #[]) h1k h1d, h1f⟩
    | 2, hq => cases hq; exact ⟨arr_of (args := #[]) h2k h2d, k2, m2, h2k, h2d, h2m, h2f⟩
    | 3, hq => cases hq; exact ⟨arr_of (args := #[]) h3k h3d, k3, m3, h3k, h3d, h3m, h3f⟩
    | 4, hq => cases hq; exact ⟨arr_of (args := #[]) h4k h4d, h4f⟩
    | k + 5, hq => exact absurd hq (by simp [tysE])
  · intro e
    have e : c0 = c2 := e
    subst e
    have h := h0k.symm.trans h2k
    obtain rfl := Option.some.inj h
    rw [h0d] at h2d
    cases h2d
theorem e_two {s : State} {b : Nat} (hts : ∀ w ∈ lw_tbl, w.before #[Value.ref b] s = true) (hs : ∀ w ∈ flatC (Jvm.Cond.and given_1 narrow_1), w.before #[Value.ref b] s = true) {E : Nat → ClassId} (h0 : s.vm.findClass "[I" = some (E 0)) (h2 : s.vm.findClass "[Ljava/lang/Object;" = some (E 2)) (hne : E 0 ≠ E 2) : ∃ a30 a31 : Nat, (Jvm.Term.static "TradeLine" "NO_FIELDS" "[I").eval #[Value.ref b] s none [] s = some (.ref a30) ∧ (Jvm.Term.static "java/util/ArrayList" "DEFAULTCAPACITY_EMPTY_ELEMENTDATA" "[Ljava/lang/Object;").eval #[Value.ref b] s none [] s = some (.ref a31) ∧ ∀ D : va_G, ∀ A : Nat → Prop, wld D E A (c0S a30 a31) [] s.heap := by
  obtain ⟨a30, c, u, k, t1, t2, t3, -, t4, t5, -⟩ := Cond.exactly_spec (show (Cond.exactly (Jvm.Term.static "TradeLine" "NO_FIELDS" "[I") "[I").holds #[Value.ref b] s none s [] = true from (hs _ (inF 870 (by decide +kernel))))
  obtain ⟨a31, c', u', k', s1, s2, s3, -, s4, s5, -⟩ := Cond.exactly_spec (show (Cond.exactly (Jvm.Term.static "java/util/ArrayList" "DEFAULTCAPACITY_EMPTY_ELEMENTDATA" "[Ljava/lang/Object;") "[Ljava/lang/Object;").holds #[Value.ref b] s none s [] = true from (hs _ (inF 6 (by decide +kernel))))
  have t6 := len0 (hs _ (inF 12 (by decide +kernel))) t1 t3
  have s6 := len0 (hs _ (inF 7 (by decide +kernel))) s1 s3
  have t7 := (Cond.arrayOf_spec (show (Cond.arrayOf (Jvm.Term.static "TradeLine" "NO_FIELDS" "[I") .int).holds #[Value.ref b] s none s [] = true from (hs _ (inF 11 (by decide +kernel)))) t1 t3).2
  have s7 := (Cond.arrayOf_spec (show (Cond.arrayOf (Jvm.Term.static "java/util/ArrayList" "DEFAULTCAPACITY_EMPTY_ELEMENTDATA" "[Ljava/lang/Object;") (.object "java/lang/Object")).holds #[Value.ref b] s none s [] = true from (hs _ (inF 5 (by decide +kernel)))) s1 s3).2
  obtain rfl : c = E 0 := Option.some.inj (t2.symm.trans h0)
  obtain rfl : c' = E 2 := Option.some.inj (s2.symm.trans h2)
  have z0 : ∀ f : Nat → Int32, (vp_cell (E 0) (0, .inl f)).slots = #[] := fun f => Array.eq_empty_of_size_eq_zero (by rw [vp_cell_i]; exact arrV_size _ _ _)
  have z1 : ∀ f : Nat → Option Nat, (vp_cell (E 2) (0, .inr (.inr (.inr (.inr f))))).slots = #[] := fun f => Array.eq_empty_of_size_eq_zero (by rw [vp_cell_q]; exact arrV_size _ _ _)
  have hap : a30 ≠ a31 := fun e => by
    subst e
    obtain rfl := Option.some.inj (t3.symm.trans s3)
    exact hne (t5.symm.trans s5)
  refine ⟨a30, a31, t1, s1, fun D A => ?_⟩
  have hlv : ∀ k i, live (c0S a30 a31) k i → (k = 30 ∨ k = 31) ∧ i = 0 := fun k i hl => by
    have h1 : i < c0C k := hl.1
    unfold c0C at h1
    split at h1
    · exact ⟨Or.inl rfl, by omega⟩
    · exact ⟨Or.inr rfl, by omega⟩
    · exact absurd h1 (Nat.not_lt_zero _)
  refine ⟨fun k i hl => ?_, fun k i k' i' hl hl' he => ?_, fun j q hq => absurd hq (by simp), fun i j p q hq => absurd hq (by simp)⟩
  · obtain ⟨hk, rfl⟩ := hlv k i hl
    refine ⟨?_, fun h1 h2 => absurd hk (fun h => h.elim h1 h2)⟩
    unfold vA
    rw [if_pos hk]
    rcases hk with rfl | rfl
    · exact ⟨u, t3, t5, t4, t7, (Array.eq_empty_of_size_eq_zero t6).trans (z0 _).symm⟩
    · exact ⟨u', s3, s5, s4, s7, (Array.eq_empty_of_size_eq_zero s6).trans (z1 _).symm⟩
  · obtain ⟨hk, rfl⟩ := hlv k i hl
    obtain ⟨hk', rfl⟩ := hlv k' i' hl'
    refine ⟨?_, rfl⟩
    rcases hk with rfl | rfl <;> rcases hk' with rfl | rfl
    · rfl
    · exact absurd he hap
    · exact absurd he.symm hap
    · rfl
theorem e_str {s : State} {b : Nat} (hts : ∀ w ∈ lw_tbl, w.before #[Value.ref b] s = true) (hs : ∀ w ∈ flatC (Jvm.Cond.and given_1 narrow_1), w.before #[Value.ref b] s = true) : ∃ f : Nat → Nat, ∀ q ∈ eS, vk_R "TradeLine" q.1 q.2 (f q.1) s := by
  have h1 : ∀ q ∈ eS, (Cond.stringRef "TradeLine" q.1 q.2).before #[Value.ref b] s = true := (List.forall_mem_cons.mpr ⟨(hts _ (inT 260 (by decide +kernel))), (List.forall_mem_cons.mpr ⟨(hts _ (inT 430 (by decide +kernel))), (List.forall_mem_cons.mpr ⟨(hts _ (inT 507 (by decide +kernel))), (List.forall_mem_cons.mpr ⟨(hts _ (inT 1044 (by decide +kernel))), (List.forall_mem_cons.mpr ⟨(hts _ (inT 1057 (by decide +kernel))), (List.forall_mem_cons.mpr ⟨(hts _ (inT 1279 (by decide +kernel))), (List.forall_mem_cons.mpr ⟨(hts _ (inT 1077 (by decide +kernel))), (List.forall_mem_cons.mpr ⟨(hts _ (inT 1383 (by decide +kernel))), (List.forall_mem_cons.mpr ⟨(hts _ (inT 491 (by decide +kernel))), (List.forall_mem_cons.mpr ⟨(hts _ (inT 1076 (by decide +kernel))), (List.forall_mem_cons.mpr ⟨(hts _ (inT 1263 (by decide +kernel))), (List.forall_mem_cons.mpr ⟨(hts _ (inT 1156 (by decide +kernel))), (List.forall_mem_cons.mpr ⟨(hts _ (inT 1165 (by decide +kernel))), (List.forall_mem_cons.mpr ⟨(hts _ (inT 1184 (by decide +kernel))), (List.forall_mem_cons.mpr ⟨(hts _ (inT 1200 (by decide +kernel))), (List.forall_mem_cons.mpr ⟨(hts _ (inT 1204 (by decide +kernel))), (fun _ h => absurd h List.not_mem_nil)⟩)⟩)⟩)⟩)⟩)⟩)⟩)⟩)⟩)⟩)⟩)⟩)⟩)⟩)⟩)⟩)
  have h2 : ∀ q ∈ eS, ∃ a : Nat, (Term.string "TradeLine" q.1).eval #[Value.ref b] s none [] s = some (.ref a) := (List.forall_mem_cons.mpr ⟨(by obtain ⟨a, c, u, k, t1, -⟩ := Cond.exactly_spec (show (Cond.exactly (.string "TradeLine" 53) "java/lang/String").holds #[Value.ref b] s none s [] = true from (hs _ (inF 282 (by decide +kernel)))); exact ⟨a, t1⟩), (List.forall_mem_cons.mpr ⟨(by obtain ⟨a, c, u, k, t1, -⟩ := Cond.exactly_spec (show (Cond.exactly (.string "TradeLine" 76) "java/lang/String").holds #[Value.ref b] s none s [] = true from (hs _ (inF 300 (by decide +kernel)))); exact ⟨a, t1⟩), (List.forall_mem_cons.mpr ⟨(by obtain ⟨a, c, u, k, t1, -⟩ := Cond.exactly_spec (show (Cond.exactly (.string "TradeLine" 95) "java/lang/String").holds #[Value.ref b] s none s [] = true from (hs _ (inF 339 (by decide +kernel)))); exact ⟨a, t1⟩), (List.forall_mem_cons.mpr ⟨(by obtain ⟨a, c, u, k, t1, -⟩ := Cond.exactly_spec (show (Cond.exactly (.string "TradeLine" 132) "java/lang/String").holds #[Value.ref b] s none s [] = true from (hs _ (inF 411 (by decide +kernel)))); exact ⟨a, t1⟩), (List.forall_mem_cons.mpr ⟨(by obtain ⟨a, c, u, k, t1, -⟩ := Cond.exactly_spec (show (Cond.exactly (.string "TradeLine" 138) "java/lang/String").holds #[Value.ref b] s none s [] = true from (hs _ (inF 448 (by decide +kernel)))); exact ⟨a, t1⟩), (List.forall_mem_cons.mpr ⟨(by obtain ⟨a, c, u, k, t1, -⟩ := Cond.exactly_spec (show (Cond.exactly (.string "TradeLine" 175) "java/lang/String").holds #[Value.ref b] s none s [] = true from (hs _ (inF 802 (by decide +kernel)))); exact ⟨a, t1⟩), (List.forall_mem_cons.mpr ⟨(by obtain ⟨a, c, u, k, t1, -⟩ := Cond.exactly_spec (show (Cond.exactly (.string "TradeLine" 187) "java/lang/String").holds #[Value.ref b] s none s [] = true from (hs _ (inF 525 (by decide +kernel)))); exact ⟨a, t1⟩), (List.forall_mem_cons.mpr ⟨(by obtain ⟨a, c, u, k, t1, -⟩ := Cond.exactly_spec (show (Cond.exactly (.string "TradeLine" 295) "java/lang/String").holds #[Value.ref b] s none s [] = true from (hs _ (inF 836 (by decide +kernel)))); exact ⟨a, t1⟩), (List.forall_mem_cons.mpr ⟨(by obtain ⟨a, c, u, k, t1, -⟩ := Cond.exactly_spec (show (Cond.exactly (.string "TradeLine" 313) "java/lang/String").holds #[Value.ref b] s none s [] = true from (hs _ (inF 321 (by decide +kernel)))); exact ⟨a, t1⟩), (List.forall_mem_cons.mpr ⟨(by obtain ⟨a, c, u, k, t1, -⟩ := Cond.exactly_spec (show (Cond.exactly (.string "TradeLine" 315) "java/lang/String").holds #[Value.ref b] s none s [] = true from (hs _ (inF 481 (by decide +kernel)))); exact ⟨a, t1⟩), (List.forall_mem_cons.mpr ⟨(by obtain ⟨a, c, u, k, t1, -⟩ := Cond.exactly_spec (show (Cond.exactly (.string "TradeLine" 321) "java/lang/String").holds #[Value.ref b] s none s [] = true from (hs _ (inF 767 (by decide +kernel)))); exact ⟨a, t1⟩), (List.forall_mem_cons.mpr ⟨(by obtain ⟨a, c, u, k, t1, -⟩ := Cond.exactly_spec (show (Cond.exactly (.string "TradeLine" 326) "java/lang/String").holds #[Value.ref b] s none s [] = true from (hs _ (inF 583 (by decide +kernel)))); exact ⟨a, t1⟩), (List.forall_mem_cons.mpr ⟨(by obtain ⟨a, c, u, k, t1, -⟩ := Cond.exactly_spec (show (Cond.exactly (.string "TradeLine" 328) "java/lang/String").holds #[Value.ref b] s none s [] = true from (hs _ (inF 611 (by decide +kernel)))); exact ⟨a, t1⟩), (List.forall_mem_cons.mpr ⟨(by obtain ⟨a, c, u, k, t1, -⟩ := Cond.exactly_spec (show (Cond.exactly (.string "TradeLine" 334) "java/lang/String").holds #[Value.ref b] s none s [] = true from (hs _ (inF 660 (by decide +kernel)))); exact ⟨a, t1⟩), (List.forall_mem_cons.mpr ⟨(by obtain ⟨a, c, u, k, t1, -⟩ := Cond.exactly_spec (show (Cond.exactly (.string "TradeLine" 339) "java/lang/String").holds #[Value.ref b] s none s [] = true from (hs _ (inF 690 (by decide +kernel)))); exact ⟨a, t1⟩), (List.forall_mem_cons.mpr ⟨(by obtain ⟨a, c, u, k, t1, -⟩ := Cond.exactly_spec (show (Cond.exactly (.string "TradeLine" 341) "java/lang/String").holds #[Value.ref b] s none s [] = true from (hs _ (inF 725 (by decide +kernel)))); exact ⟨a, t1⟩), (fun _ h => absurd h List.not_mem_nil)⟩)⟩)⟩)⟩)⟩)⟩)⟩)⟩)⟩)⟩)⟩)⟩)⟩)⟩)⟩)⟩)
  have h3 : ∀ k : Nat, ∃ a : Nat, ∀ a' : Nat, (Term.string "TradeLine" k).eval #[Value.ref b] s none [] s = some (.ref a') → a' = a := fun k => by
    cases h : (Term.string "TradeLine" k).eval #[Value.ref b] s none [] s with
    | none => exact ⟨0, fun a' e => absurd e (by simp)⟩
    | some v =>
      cases v with
      | ref a => exact ⟨a, fun a' e => by injection (Option.some.inj e) with e1; exact e1.symm⟩
      | _ => exact ⟨0, fun a' e => by injection e with e1; cases e1⟩
  obtain ⟨f, hf⟩ := Classical.axiomOfChoice h3
  refine ⟨f, fun q hq => ?_⟩
  obtain ⟨a, ha⟩ := h2 q hq
  rw [← hf q.1 a ha]
  exact vk_R.of (h1 q hq) ha
theorem e_env {s : State} {b : Nat} (hts : ∀ w ∈ lw_tbl, w.before #[Value.ref b] s = true) (hs : ∀ w ∈ flatC (Jvm.Cond.and given_1 narrow_1), w.before #[Value.ref b] s = true) {a30 a31 : Nat} (t1 : (Jvm.Term.static "TradeLine" "NO_FIELDS" "[I").eval #[Value.ref b] s none [] s = some (.ref a30)) (s1 : (Jvm.Term.static "java/util/ArrayList" "DEFAULTCAPACITY_EMPTY_ELEMENTDATA" "[Ljava/lang/Object;").eval #[Value.ref b] s none [] s = some (.ref a31)) : ∃ B : Nat × (Nat → Nat), eV a30 a31 B (fun q => s.heap.size ≤ q) s s.heap := by
  obtain ⟨mi, hmi⟩ := va_Mi.of (C := "[Ljava/lang/Object;") (hs _ (inF 281 (by decide +kernel)))
  obtain ⟨f, hf⟩ := e_str hts hs
  have hA : ∀ a : Nat, a < s.heap.size → ¬ (fun q : Nat => s.heap.size ≤ q) a := fun a h => Nat.not_le.mpr h
  have hx : ∀ x ∈ eX, va_Nw (.castable x x) s := (List.forall_mem_cons.mpr ⟨(va_Nw.of rfl (hts _ (inT 484 (by decide +kernel)))), (List.forall_mem_cons.mpr ⟨(va_Nw.of rfl (hts _ (inT 500 (by decide +kernel)))), (List.forall_mem_cons.mpr ⟨(va_Nw.of rfl (hts _ (inT 221 (by decide +kernel)))), (fun _ h => absurd h List.not_mem_nil)⟩)⟩)⟩)
  have hy : ∀ y ∈ eD, va_Nw (.declares y) s := (List.forall_mem_cons.mpr ⟨(va_Nw.of rfl (hts _ (inT 223 (by decide +kernel)))), (List.forall_mem_cons.mpr ⟨(va_Nw.of rfl (hts _ (inT 225 (by decide +kernel)))), (List.forall_mem_cons.mpr ⟨(va_Nw.of rfl (hts _ (inT 227 (by decide +kernel)))), (fun _ h => absurd h List.not_mem_nil)⟩)⟩)⟩)
  refine ⟨(mi, f), ?_, ?_, ?_, ⟨?_, ?_⟩, hmi, ?_, ?_, ?_, hf⟩
  · exact (List.forall_mem_cons.mpr ⟨(show va_Z "java/util/ArrayList" "DEFAULTCAPACITY_EMPTY_ELEMENTDATA" "[Ljava/lang/Object;" (.ref a31) _ s s.heap from va_Zref (hts _ (inT 59 (by decide +kernel))) (hts _ (inT 5 (by decide +kernel))) s1 hA), (List.forall_mem_cons.mpr ⟨(show va_Z "TradeLine" "NO_FIELDS" "[I" (.ref a30) _ s s.heap from va_Zref (hts _ (inT 296 (by decide +kernel))) (hts _ (inT 1 (by decide +kernel))) t1 hA), (fun _ h => absurd h List.not_mem_nil)⟩)⟩)
  · exact vx_Zqof (hts _ (inT 246 (by decide +kernel))) (hts _ (inT 9 (by decide +kernel))) (hs _ (inF 8 (by decide +kernel))) hA
  · exact vx_Zqof (hts _ (inT 248 (by decide +kernel))) (hts _ (inT 9 (by decide +kernel))) (hs _ (inF 9 (by decide +kernel))) hA
  · exact va_AO.of (hts _ (inT 403 (by decide +kernel)))
  · exact va_AO.of (hts _ (inT 148 (by decide +kernel)))
  · exact va_Dc.of (hts _ (inT 1434 (by decide +kernel)))
  · exact (List.forall_mem_cons.mpr ⟨⟨(va_Nw.of rfl (hts _ (inT 1425 (by decide +kernel)))), hx, hy⟩, (List.forall_mem_cons.mpr ⟨⟨(va_Nw.of rfl (hts _ (inT 1429 (by decide +kernel)))), hx, hy⟩, (List.forall_mem_cons.mpr ⟨⟨(va_Nw.of rfl (hts _ (inT 1428 (by decide +kernel)))), hx, hy⟩, (fun _ h => absurd h List.not_mem_nil)⟩)⟩)⟩)
  · exact (List.forall_mem_cons.mpr ⟨(va_Nw.of rfl (hts _ (inT 42 (by decide +kernel)))), (List.forall_mem_cons.mpr ⟨(va_Nw.of rfl (hts _ (inT 74 (by decide +kernel)))), (List.forall_mem_cons.mpr ⟨(va_Nw.of rfl (hts _ (inT 99 (by decide +kernel)))), (fun _ h => absurd h List.not_mem_nil)⟩)⟩)⟩)
theorem e_nc {s : State} {b : Nat} (hts : ∀ w ∈ lw_tbl, w.before #[Value.ref b] s = true) (hs : ∀ w ∈ flatC (Jvm.Cond.and given_1 narrow_1), w.before #[Value.ref b] s = true) : vN s := (List.forall_mem_cons.mpr ⟨(va_Nc.of (hs _ (inF 244 (by decide +kernel)))), (List.forall_mem_cons.mpr ⟨(va_Nc.of (hs _ (inF 245 (by decide +kernel)))), (List.forall_mem_cons.mpr ⟨(va_Nc.of (hs _ (inF 259 (by decide +kernel)))), (fun _ h => absurd h List.not_mem_nil)⟩)⟩)⟩)
theorem e_flags {l : Launch} (h : l.flags = flags0) : l.stackTraces = false := by
  unfold Launch.stackTraces
  rw [h]
  decide +kernel
/-- the law's whole run out of a pure run of class and reference (the pure run is part PURE's) -/
theorem whole_open {p : Program} {e : Env} {s : State} {m : MethodId} {below : List Frame} {meth : Method} {c : Code} (l : Launch) (hflags : l.flags = flags0) {b L : Nat} {xs : Nat → Int32} (hp : ∃ (w : Nat) (r0 : ((MP × NC) × AS) × Int32), b_L_law_90 L xs w c1μ c1ν z1a = some r0 ∧ kc r0.1.1.2 - kc c1ν ≤ 299000 ∧ ks r0.1.1.2 - ks c1ν ≤ 2990000) (C0 : lw_At p s m meth c b L xs) : W p l e room_1 s m #[Value.ref b] below meth c s.heap [] 0 0 (lw_Z below #[Value.ref b] s) (entryFrame m ([Value.ref b] : List Value).toArray 23) := by
  obtain ⟨hx, hb, hr, hml, hown, hts, hX, hbl, hlocks, hgv⟩ := id C0
  obtain ⟨w, r0, hp, hc1, hc2⟩ := hp
  have hs := flat_of_before _ hgv
  obtain ⟨D, hD⟩ := e_cls hts
  obtain ⟨E, hE, h0, h2, hne⟩ := e_arr hts
  obtain ⟨a30, a31, t1, s1, hw⟩ := e_two hts hs h0 h2 hne
  obtain ⟨B, hEv⟩ := e_env hts hs t1 s1
  have hl := lv_entry ([.ref b]) (n := 23) (Nat.le_of_ble_eq_true rfl)
  rw [lg_entry_eq]
  generalize (lg_sl ([.ref b]) ++ List.replicate (23 - (lg_sl ([.ref b])).length) Slot.unset).toArray = ls at hl ⊢
  have hl : lv_has ls 23 [(0, .ref b)] := hl
  have C : cx p s m #[Value.ref b] meth c D E (fun q => s.heap.size ≤ q) cL_law 23 "TradeLineLaw" := ⟨hx, hb, hown, e_GT hts, hml, hlocks, ⟨hD, hE⟩, fun _ h => h⟩
  refine w_begin C hEv (Nat.le_of_ble_eq_true rfl) (Nat.le_of_ble_eq_true rfl) ⟨Nat.le_of_ble_eq_true rfl, Nat.le_of_ble_eq_true rfl⟩ (fun Ad Q0 hQ h30 => ?_) s.heap [] ls (hw _ _) va_S.rf hl
  have k := lb_L_law_90 (below := below) (e := e) (kC := 60) (kS := 2000) (e_flags hflags) C hEv (e_nc hts hs) hr hX hbl h30 c1_lwI hQ ⟨by omega, by omega⟩ (mn_rfl _) (kp_rfl _ _) hp
  rw [Nat.sub_self, Nat.sub_self] at k
  exact k
