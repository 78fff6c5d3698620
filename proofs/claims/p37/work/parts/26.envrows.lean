section EnvG
variable {p : Program} {l : Launch} {e : Env} {R : Room} {s : State} {m : MethodId} {args : Array Value} {below : List Frame} {meth : Method} {c : Code} {D : va_G} {E : Nat → ClassId} {A : Nat → Prop} {cc : ByteArray} {nL : Nat} {own : String} {Q : State → Prop}
variable {σ : RS} {ex : va_W} {cells slots pc : Nat} {lv : List (Nat × Value)} {rest : List Value}
variable {B : Nat × (Nat → Nat)} {a30 a31 : Nat}
theorem g_getsE (C : cx p s m args meth c D E A cc nL own) (hEv : eV a30 a31 B A s s.heap) {index : Nat} (hlink : Cond.fieldLink own index "java/util/ArrayList" "DEFAULTCAPACITY_EMPTY_ELEMENTDATA" "[Ljava/lang/Object;" ∈ GT) (hd : decode cc pc = .ok (.getstatic index, 3)) (kk : G p l e R s m args below meth c D E A nL Q σ ex cells slots (pc + 3) lv (.ref a31 :: rest)) : G p l e R s m args below meth c D E A nL Q σ ex cells slots (pc) lv (rest) := fun H locs ls hw hs hl =>
  va_gets C.1 C.2.1 (hEv.1 ("java/util/ArrayList", "DEFAULTCAPACITY_EMPTY_ELEMENTDATA", "[Ljava/lang/Object;", .ref a31) (List.mem_cons_self ..)) hs C.2.2.1 (C.2.2.2.1 _ hlink) (fun _ h => h) hd (kk H locs ls hw hs hl)
theorem g_getsN (C : cx p s m args meth c D E A cc nL own) (hEv : eV a30 a31 B A s s.heap) {index : Nat} (hlink : Cond.fieldLink own index "TradeLine" "NO_FIELDS" "[I" ∈ GT) (hd : decode cc pc = .ok (.getstatic index, 3)) (kk : G p l e R s m args below meth c D E A nL Q σ ex cells slots (pc + 3) lv (.ref a30 :: rest)) : G p l e R s m args below meth c D E A nL Q σ ex cells slots (pc) lv (rest) := fun H locs ls hw hs hl =>
  va_gets C.1 C.2.1 (hEv.1 ("TradeLine", "NO_FIELDS", "[I", .ref a30) (List.mem_cons_of_mem _ (List.mem_cons_self ..))) hs C.2.2.1 (C.2.2.2.1 _ hlink) (fun _ h => h) hd (kk H locs ls hw hs hl)
theorem g_ldcM (C : cx p s m args meth c D E A cc nL own) (hEv : eV a30 a31 B A s s.heap) {index : Nat} (hlink : Cond.classLink own index "[Ljava/lang/Object;" ∈ GT) (hd : decode cc pc = .ok (.ldc index, 2)) (kk : G p l e R s m args below meth c D E A nL Q σ ex cells slots (pc + 2) lv (.ref B.1 :: rest)) : G p l e R s m args below meth c D E A nL Q σ ex cells slots (pc) lv (rest) := fun H locs ls hw hs hl =>
  va_ldcM C.1 C.2.1 C.2.2.1 (C.2.2.2.1 _ hlink) hEv.2.2.2.2.1 hd (kk H locs ls hw hs hl)
/-- the class object of an array of references -/
theorem g_getCl (C : cx p s m args meth c D E A cc nL own) (hEv : eV a30 a31 B A s s.heap) {index k i q : Nat} (hq : rA σ k i = q) (hlv : live σ k i) (hkn : knd k = 3) (hlink : Cond.methodLink own index ⟨"java/lang/Object", "getClass", "()Ljava/lang/Class;"⟩ ∈ GT) (hsel : Cond.selects "[Ljava/lang/Object;" ⟨"java/lang/Object", "getClass", "()Ljava/lang/Class;"⟩ ⟨"java/lang/Object", "getClass", "()Ljava/lang/Class;"⟩ ∈ GT) (hinst : Cond.instanceMethod ⟨"java/lang/Object", "getClass", "()Ljava/lang/Class;"⟩ ∈ GT) (hnat : Cond.native ⟨"java/lang/Object", "getClass", "()Ljava/lang/Class;"⟩ ∈ GT) (hframes : 1 ≤ R.frames) (hlocals : (rest.map fun v => v.category).sum + 14 ≤ R.locals) (hd : decode cc pc = .ok (.invokevirtual index, 3)) (kk : G p l e R s m args below meth c D E A nL Q σ ex cells slots (pc + 3) lv (.ref B.1 :: rest)) (h31 : k ≠ 31 := by decide) : G p l e R s m args below meth c D E A nL Q σ ex cells slots (pc) lv (.ref q :: rest) := fun H locs ls hw hs hl => by
  subst hq
  have hat := (hw.1 k i hlv).1.to (fun h => by subst h; cases hkn) h31
  rw [ct_oa hkn] at hat
  have hat : H[rA σ k i]? = some (vp_cell (E 2) (rN σ k i, .inr (.inr (.inr (.inr (oa σ k i)))))) := hat
  exact va_getC C.1 C.2.1 (by rw [C.2.2.2.2.1]; exact hl.1.symm) C.2.2.1 (C.2.2.2.1 _ hlink) (va_Dc.use hEv.2.2.2.2.2.1) (C.2.2.2.1 _ hsel) (C.2.2.2.1 _ hinst) (C.2.2.2.1 _ hnat) hEv.2.2.2.2.1 ⟨_, hat, rfl, va_nmO (C := "java/lang/Object") ((C.2.2.2.2.2.2.1.2 2 _ rfl).2) rfl⟩ hframes hlocals hd (kk H locs ls hw hs hl)
theorem g_acmp_ne (C : cx p s m args meth c D E A cc nL own) {x y : Nat} {off : Int} {tgt : Nat} (hd : decode cc pc = .ok (.if_acmp .ne off, 3)) (ht : (pc : Int) + off = (tgt : Int)) (kt : ¬ x = y → G p l e R s m args below meth c D E A nL Q σ ex cells slots (tgt) lv (rest)) (kf : x = y → G p l e R s m args below meth c D E A nL Q σ ex cells slots (pc + 3) lv (rest)) : G p l e R s m args below meth c D E A nL Q σ ex cells slots (pc) lv (.ref y :: .ref x :: rest) := fun H locs ls hw hs hl =>
  lv_acmp_ne (rx := some x) (ry := some y) C.1 C.2.1 hd ht (fun h => kt (fun q => h (congrArg some q)) H locs ls hw hs hl) (fun h => kf (Option.some.inj h) H locs ls hw hs hl)
theorem g_acmp_eq (C : cx p s m args meth c D E A cc nL own) {x y : Nat} {off : Int} {tgt : Nat} (hd : decode cc pc = .ok (.if_acmp .eq off, 3)) (ht : (pc : Int) + off = (tgt : Int)) (kt : x = y → G p l e R s m args below meth c D E A nL Q σ ex cells slots (tgt) lv (rest)) (kf : ¬ x = y → G p l e R s m args below meth c D E A nL Q σ ex cells slots (pc + 3) lv (rest)) : G p l e R s m args below meth c D E A nL Q σ ex cells slots (pc) lv (.ref y :: .ref x :: rest) := fun H locs ls hw hs hl =>
  lv_acmp_eq (rx := some x) (ry := some y) C.1 C.2.1 hd ht (fun h => kt (Option.some.inj h) H locs ls hw hs hl) (fun h => kf (fun q => h (congrArg some q)) H locs ls hw hs hl)
/-- a new array of references, loose -/
theorem g_newq (C : cx p s m args meth c D E A cc nL own) (t : Nat) (ht : t = 2 ∨ t = 3) {index : Nat} (hcl : Cond.classLink own index (rT t) ∈ GT) (hover : va_AO (rT t) s) {n : Int32} {N' : Nat} (hn : ¬ n < 0) (hN : n.toNatClampNeg = N') (hbytes : N' * 4 ≤ 536870912) (hcells : cells + 1 ≤ R.cells) (hslots : slots + N' ≤ R.slots) (hd : decode cc pc = .ok (.anewarray index, 3))
    (kk : ∀ q : Nat, A q → s.heap.size ≤ q → G p l e R s m args below meth c D E A nL Q σ (ex ++ [(q, .inl (E t, N', .inr (.inr (.inr (.inr (fun _ => none))))))]) (cells + 1) (slots + N') (pc + 3) lv (.ref q :: rest)) : G p l e R s m args below meth c D E A nL Q σ ex cells slots (pc) lv (.int n :: rest) := fun H locs ls hw hs hl => by
  subst hN
  refine W.anew C.1 C.2.1 C.2.2.1 (C.2.2.2.1 _ hcl) (va_AO.use hover) rfl hd rfl hn hbytes hcells hslots fun cA kA comp f1 f2 f3 f4 => ?_
  have hE : cA = E t := by
    obtain ⟨_, _, _, _, _, h5⟩ := (C.2.2.2.2.2.2.1.2 t _ (tys_ra ht)).2
    exact Option.some.inj (f1.symm.trans h5)
  subst hE
  generalize hH1 : H.push ({ cls := E t, slots := Array.replicate n.toNatClampNeg .null, vm := .none } : Cell) = H1
  have z1 : H1.size = H.size + 1 := by rw [← hH1, Array.size_push]
  have e1 : H1[H.size]? = some (arrV (E t) n.toNatClampNeg (fun _ => .null)) := by rw [← hH1, Array.getElem?_push_size, ← arrV_new]
  have o1 : ∀ q : Nat, q < H.size → H1[q]? = H[q]? := fun q hq => by rw [← hH1, Array.getElem?_push, if_neg (Nat.ne_of_lt hq)]
  refine kk H.size (C.2.2.2.2.2.2.2 _ hs.1) hs.1 H1 locs ls (wld_new hw (Nat.le_refl _) ?_ o1) ⟨Nat.le_trans hs.1 (by omega), fun x h1 h2 => (o1 x (Nat.lt_of_lt_of_le h1 hs.1)).trans (hs.2.1 x h1 h2), hs.2.2⟩ hl
  show H1[H.size]? = some (vp_cell _ _)
  rw [vp_cell_q]
  exact e1
/-- System.arraycopy of references, at the machine's level -/
theorem w_copyq (C : cx p s m args meth c D E A cc nL own) {H : Heap} {locs : List Loc} {ls : Array Slot} (hls : c.maxLocals = ls.size) {index a0 a n0 n1 : Nat} {f g : Nat → Option Nat} (hlink : Cond.methodLink own index arraycopyName ∈ GT) (hnat : Cond.native arraycopyName ∈ GT) (hstat : Cond.static arraycopyName ∈ GT) (hini : Cond.initialized "java/lang/System" ∈ GT)
    (hc0 : H[a0]? = some (vp_cell (E 2) (n0, .inr (.inr (.inr (.inr f)))))) (hc1 : H[a]? = some (vp_cell (E 2) (n1, .inr (.inr (.inr (.inr g)))))) {sp dp n : Int32} (h1 : ¬ sp < 0) (h2 : ¬ dp < 0) (h3 : ¬ n < 0) (h4 : sp.toNatClampNeg + n.toNatClampNeg ≤ n0) (h5 : dp.toNatClampNeg + n.toNatClampNeg ≤ n1)
    (hel : ∀ i : Nat, i < n.toNatClampNeg → ∀ y : Nat, f (sp.toNatClampNeg + i) = some y → ∃ (cellV : Cell) (Cn : String), H[y]? = some cellV ∧ cellV.vm.isStatics = false ∧ s.vm.findClass Cn = some cellV.cls ∧ va_Nw (.castable Cn "java/lang/Object") s)
    (hframes : 1 ≤ R.frames) (hlocals : (rest.map fun v => v.category).sum + 18 ≤ R.locals) (hd : decode cc pc = .ok (.invokestatic index, 3))
    (kk : ∀ (H1 : Heap) (locs1 : List Loc), H1[a]? = some (vp_cell (E 2) (n1, .inr (.inr (.inr (.inr (va_cpy f g sp.toNatClampNeg dp.toNatClampNeg n.toNatClampNeg)))))) → H1.size = H.size → (∀ q : Nat, q ≠ a → H1[q]? = H[q]?) → (∀ q ∈ locs1, q ∈ locs ∨ q.base = a) → W p l e R s m args below meth c H1 locs1 cells slots Q (F0 m (pc + 3) ls rest)) : W p l e R s m args below meth c H locs cells slots Q (F0 m pc ls (.int n :: .int dp :: .ref a :: .int sp :: .ref a0 :: rest)) := by
  have nn : ∀ z : Int32, ¬ z < 0 → z.toInt = (z.toNatClampNeg : Int) := by
    intro z hz
    have hz0 : (0 : Int) ≤ z.toInt := by
      have := Int32.not_lt.mp hz
      simpa using Int32.le_iff_toInt_le.mp this
    show z.toInt = ((z.toInt.toNat : Nat) : Int)
    omega
  intro T hT X
  have hK := C.2.2.2.2.2.2.1
  obtain ⟨-, k0, hk0, cm0, hkk0⟩ := (hK.2 2 _ rfl).1 n0 (fun j => va_rf (f j))
  obtain ⟨-, k1, hk1, cm1, hkk1⟩ := (hK.2 2 _ rfl).1 n1 (fun j => va_rf (g j))
  obtain ⟨vm', X', step⟩ := X.arraycopy C.1 C.2.2.1 (C.2.2.2.1 _ hlink) (C.2.2.2.1 _ hnat) (C.2.2.2.1 _ hstat) (C.2.2.2.1 _ hini) (src := a0) (dst := a) (cs := vp_cell (E 2) (n0, .inr (.inr (.inr (.inr f))))) (cd := vp_cell (E 2) (n1, .inr (.inr (.inr (.inr g))))) (srcPos := sp) (destPos := dp) (n := n) (by rw [hT]; exact hc0) (by rw [hT]; exact hc1)
    (fun _ h => by cases h) (fun _ h => by cases h) (fun h => by cases h) (fun h => by cases h) hk0 hk1 hkk0 hkk1 rfl h1 h2 h3
    (by rw [nn sp h1, nn n h3]; show ¬ _ > ((arrV (E 2) n0 (fun j => va_rf (f j))).slots.size : Int); rw [arrV_size]; omega)
    (by rw [nn dp h2, nn n h3]; show ¬ _ > ((arrV (E 2) n1 (fun j => va_rf (g j))).slots.size : Int); rw [arrV_size]; omega)
    (fun vm₁ hal i hi => by
      have e : (vp_cell (E 2) (n0, .inr (.inr (.inr (.inr f))))).slots.getD (sp.toNatClampNeg + i) .null = va_rf (f (sp.toNatClampNeg + i)) := by
        show (arrV (E 2) n0 (fun j => va_rf (f j))).slots.getD _ _ = _
        rw [Array.getD_eq_getD_getElem?, arrV_read _ _ (by omega)]
        rfl
      rw [e]
      cases hy : f (sp.toNatClampNeg + i) with
      | none => exact ⟨rfl, trivial⟩
      | some y =>
        obtain ⟨cellV, Cn, g1, g2, g3, hca⟩ := hel i hi y hy
        obtain ⟨kA, comp, r1, r2, r3, -⟩ := (hK.2 2 _ rfl).2
        cases hk1.symm.trans r1
        cases hkk1.symm.trans r2
        obtain ⟨kC, hkC, -⟩ := Vm.findClass_spec g3
        obtain ⟨kE, hkE, -⟩ := Vm.findClass_spec r3
        obtain ⟨kC', hkC', -⟩ := hal.2.2 _ _ hkC
        obtain ⟨kE', hkE', -⟩ := hal.2.2 _ _ hkE
        obtain ⟨c0, t1, f1, f2, f3⟩ := Cond.castable_spec (va_Nw.use (A := args) rfl hca)
        cases g3.symm.trans f1
        cases r3.symm.trans f2
        refine ⟨rfl, cellV, (show T.heap[y]? = some cellV by rw [hT]; exact g1), (fun q h => by rw [h] at g2; cases g2), ⟨kC', hkC'⟩, ?_, ?_⟩
        · exact ⟨kE', hkE'⟩
        · show vm₁.assignable _ _ = true
          rw [hal.assignable]
          exact f3)
    (g := F0 m pc ls (.int n :: .int dp :: .ref a :: .int sp :: .ref a0 :: rest)) rfl (by rw [hls]) (rest := rest) rfl (by rw [C.2.1]; exact hd) hframes (by show 2 * 0 + _ + _ ≤ _; exact Nat.le_trans (by rw [Nat.zero_add, show nativeFrameWords "java/lang/System" "arraycopy" 5 = 7 by decide]; exact Nat.le_refl _) hlocals)
  have e1 : copied (vp_cell (E 2) (n0, .inr (.inr (.inr (.inr f))))) (vp_cell (E 2) (n1, .inr (.inr (.inr (.inr g))))) sp dp n = vp_cell (E 2) (n1, .inr (.inr (.inr (.inr (va_cpy f g sp.toNatClampNeg dp.toNatClampNeg n.toNatClampNeg))))) := by
    rw [vp_cell_q, vp_cell_q, vp_cell_q]
    exact va_copied (fun z => va_rf z) (E 2) (E 2) f g h4
  rw [e1] at X' step
  have hl9 : a < H.size := (Array.getElem?_eq_some_iff.mp hc1).1
  have hheap : ((T.setVm vm').setCell a (vp_cell (E 2) (n1, .inr (.inr (.inr (.inr (va_cpy f g sp.toNatClampNeg dp.toNatClampNeg n.toNatClampNeg))))))).heap = H.setIfInBounds a (vp_cell (E 2) (n1, .inr (.inr (.inr (.inr (va_cpy f g sp.toNatClampNeg dp.toNatClampNeg n.toNatClampNeg)))))) := by rw [← hT]; rfl
  obtain ⟨t, a1, b1⟩ := kk _ _ (show (H.setIfInBounds a _)[a]? = some _ by simp [Array.getElem?_setIfInBounds, hl9]) (by simp) (fun q hq => by simp [Array.getElem?_setIfInBounds, Ne.symm hq]) (fun q hq => by
      rcases List.mem_append.mp hq with h | h
      · exact Or.inl h
      · obtain ⟨z, -, hz⟩ := List.mem_map.mp h
        exact Or.inr (by rw [← hz])) _ hheap X'
  exact ⟨t, step t a1, b1⟩
theorem eC_at (i : Nat) : ∃ r : vw_C, vwCl[cK (eK 5 i)]? = some r ∧ r.1 ∈ eC := by
  have h : eK 5 i = 6 ∨ eK 5 i = 7 ∨ eK 5 i = 23 ∨ eK 5 i = 20 := by
    unfold eK
    rw [if_neg (by decide)]
    split
    · exact Or.inl rfl
    · exact Or.inl rfl
    · exact Or.inr (Or.inr (Or.inl rfl))
    · exact Or.inr (Or.inr (Or.inr rfl))
  rcases h with h | h | h | h <;> rw [h]
  · exact ⟨_, rfl, List.mem_cons_self ..⟩
  · exact ⟨_, rfl, List.mem_cons_self ..⟩
  · exact ⟨_, rfl, List.mem_cons_of_mem _ (List.mem_cons_of_mem _ (List.mem_cons_self ..))⟩
  · exact ⟨_, rfl, List.mem_cons_of_mem _ (List.mem_cons_self ..)⟩
theorem el_at (C : cx p s m args meth c D E A cc nL own) (hEv : eV a30 a31 B A s s.heap) {H : Heap} (hw : wld D E A σ ex H) {i v : Nat} (hl : live σ (eK 5 i) v) : ∃ (cellV : Cell) (Cn : String), H[rA σ (eK 5 i) v]? = some cellV ∧ cellV.vm.isStatics = false ∧ s.vm.findClass Cn = some cellV.cls ∧ va_Nw (.castable Cn "java/lang/Object") s := by
  obtain ⟨r, hr, hm⟩ := eC_at i
  have hk5 := (knd_eK (k := 5) (i := i) (Or.inl rfl)).1
  have hel := (hw.1 _ _ hl).1.to (fun h => by rw [h] at hk5; cases hk5) (fun h => by rw [h] at hk5; cases hk5)
  rw [ct_obj hk5] at hel
  obtain ⟨r', hr', cellV, g1, g2, g3, -⟩ := hel
  exact ⟨cellV, r.1, g1, by rw [g3]; rfl, by rw [g2]; exact (C.2.2.2.2.2.2.1.1 _ r hr).2.1, (hEv.2.2.2.2.2.2.1 _ hm).1⟩
theorem oa_cpy (σ : RS) (i sp dp n : Nat) : oa (sQ σ 5 i (va_cpy (rP σ 5 i) (rP σ 5 i) sp dp n)) 5 i = va_cpy (oa σ 5 i) (oa σ 5 i) sp dp n := by
  funext z
  unfold oa
  rw [rP_sQ]
  unfold va_cpy
  by_cases h : dp ≤ z ∧ z < dp + n
  · rw [if_pos h, if_pos h]; rfl
  · rw [if_neg h, if_neg h]; rfl
/-- within one array -/
theorem g_copyqS (C : cx p s m args meth c D E A cc nL own) (hEv : eV a30 a31 B A s s.heap) {index i q : Nat} (hlink : Cond.methodLink own index arraycopyName ∈ GT) (hnat : Cond.native arraycopyName ∈ GT) (hstat : Cond.static arraycopyName ∈ GT) (hini : Cond.initialized "java/lang/System" ∈ GT) (hq : rA σ 5 i = q) (hlv : live σ 5 i) {sp dp n : Int32} (h1 : ¬ sp < 0) (h2 : ¬ dp < 0) (h3 : ¬ n < 0) (h4 : sp.toNatClampNeg + n.toNatClampNeg ≤ rN σ 5 i) (h5 : dp.toNatClampNeg + n.toNatClampNeg ≤ rN σ 5 i)
    (hel : ∀ j : Nat, j < n.toNatClampNeg → rP σ 5 i (sp.toNatClampNeg + j) ≠ 0 → live σ (eK 5 i) (rP σ 5 i (sp.toNatClampNeg + j) - 1)) (hframes : 1 ≤ R.frames) (hlocals : (rest.map fun v => v.category).sum + 18 ≤ R.locals) (hd : decode cc pc = .ok (.invokestatic index, 3))
    (kk : G p l e R s m args below meth c D E A nL Q (sQ σ 5 i (va_cpy (rP σ 5 i) (rP σ 5 i) sp.toNatClampNeg dp.toNatClampNeg n.toNatClampNeg)) ex cells slots (pc + 3) lv (rest)) : G p l e R s m args below meth c D E A nL Q σ ex cells slots (pc) lv (.int n :: .int dp :: .ref q :: .int sp :: .ref q :: rest) := fun H locs ls hw hs hl => by
  subst hq
  have hat := (hw.1 5 i hlv).1.to (by decide) (by decide)
  rw [ct_oa rfl] at hat
  have hA := (hw.1 5 i hlv).2 (by decide) (by decide)
  refine w_copyq C (by rw [C.2.2.2.2.1]; exact hl.1.symm) hlink hnat hstat hini hat hat h1 h2 h3 h4 h5 (fun j hj y hy => ?_) hframes hlocals hd fun H1 locs1 e z oq hlo => ?_
  · unfold oa at hy
    by_cases h0 : rP σ 5 i (sp.toNatClampNeg + j) = 0
    · rw [if_pos h0] at hy; cases hy
    · rw [if_neg h0] at hy
      cases hy
      exact el_at C hEv hw (hel j hj h0)
  · refine kk H1 locs1 ls (wld_cell hw hlv rfl rfl (sQ_other σ 5 i _) ?_ oq) ⟨by rw [z]; exact hs.1, fun q g1 g2 => by rw [oq q (fun e => g2 (by rw [e]; exact hA))]; exact hs.2.1 q g1 g2, fun q hq => (hlo q hq).elim (fun h => hs.2.2 q h) (fun h => by rw [h]; exact hA)⟩ hl
    rw [ct_oa rfl, oa_cpy]
    exact e
/-- into a loose array -/
theorem g_copyqL (C : cx p s m args meth c D E A cc nL own) (hEv : eV a30 a31 B A s s.heap) {index i q a n1 : Nat} {g : Nat → Option Nat} (hlink : Cond.methodLink own index arraycopyName ∈ GT) (hnat : Cond.native arraycopyName ∈ GT) (hstat : Cond.static arraycopyName ∈ GT) (hini : Cond.initialized "java/lang/System" ∈ GT) (hq : rA σ 5 i = q) (hlv : live σ 5 i) (j : Nat) (he : ex[j]? = some (a, .inl (E 2, n1, .inr (.inr (.inr (.inr g)))))) (hqa : A a) {sp dp n : Int32} (h1 : ¬ sp < 0) (h2 : ¬ dp < 0) (h3 : ¬ n < 0) (h4 : sp.toNatClampNeg + n.toNatClampNeg ≤ rN σ 5 i) (h5 : dp.toNatClampNeg + n.toNatClampNeg ≤ n1)
    (hel : ∀ j : Nat, j < n.toNatClampNeg → rP σ 5 i (sp.toNatClampNeg + j) ≠ 0 → live σ (eK 5 i) (rP σ 5 i (sp.toNatClampNeg + j) - 1)) (hframes : 1 ≤ R.frames) (hlocals : (rest.map fun v => v.category).sum + 18 ≤ R.locals) {ex' : va_W} (hex : ex.set j (a, .inl (E 2, n1, .inr (.inr (.inr (.inr (va_cpy (oa σ 5 i) g sp.toNatClampNeg dp.toNatClampNeg n.toNatClampNeg)))))) = ex') (hd : decode cc pc = .ok (.invokestatic index, 3))
    (kk : G p l e R s m args below meth c D E A nL Q σ ex' cells slots (pc + 3) lv (rest)) : G p l e R s m args below meth c D E A nL Q σ ex cells slots (pc) lv (.int n :: .int dp :: .ref a :: .int sp :: .ref q :: rest) := fun H locs ls hw hs hl => by
  subst hq hex
  have hat := (hw.1 5 i hlv).1.to (by decide) (by decide)
  rw [ct_oa rfl] at hat
  refine w_copyq C (by rw [C.2.2.2.2.1]; exact hl.1.symm) hlink hnat hstat hini hat (hw.2.2.1 j _ he).1 h1 h2 h3 h4 h5 (fun j hj y hy => ?_) hframes hlocals hd fun H1 locs1 e z oq hlo => ?_
  · unfold oa at hy
    by_cases h0 : rP σ 5 i (sp.toNatClampNeg + j) = 0
    · rw [if_pos h0] at hy; cases hy
    · rw [if_neg h0] at hy
      cases hy
      exact el_at C hEv hw (hel j hj h0)
  · exact kk H1 locs1 ls (wld_ex hw he e oq) ⟨by rw [z]; exact hs.1, fun q g1 g2 => by rw [oq q (fun e => g2 (by rw [e]; exact hqa))]; exact hs.2.1 q g1 g2, fun q hq => (hlo q hq).elim (fun h => hs.2.2 q h) (fun h => by rw [h]; exact hqa)⟩ hl
end EnvG
