/-- an array of ints (or truth values) at a: live or loose -/
def isArr (E : Nat → ClassId) (σ : RS) (ex : va_W) (a t n : Nat) (f : Nat → Int32) : Prop := (∃ k i, live σ k i ∧ rA σ k i = a ∧ ct E σ k i = .inl (E t, n, .inl f)) ∨ ∃ j : Nat, ex[j]? = some (a, Sum.inl (E t, n, .inl f))
theorem isArr_at {D : va_G} {E : Nat → ClassId} {A : Nat → Prop} {σ : RS} {ex : va_W} {H : Heap} {a t n : Nat} {f : Nat → Int32} (hw : wld D E A σ ex H) (h : isArr E σ ex a t n f) : ∃ cs : Cell, H[a]? = some cs ∧ cs.cls = E t ∧ cs.vm.isStatics = false ∧ cs.vm ≠ .unknown ∧ cs.slots = (vp_cell (E t) (n, .inl f)).slots := by
  rcases h with ⟨k, i, h1, rfl, h3⟩ | ⟨j, h1⟩
  · have h4 := (hw.1 k i h1).1
    rw [h3] at h4
    unfold vA at h4
    by_cases hk : k = 30 ∨ k = 31
    · rw [if_pos hk] at h4
      exact h4
    · rw [if_neg hk] at h4
      exact ⟨_, h4, rfl, rfl, (fun e => by cases e), rfl⟩
  · exact ⟨_, (hw.2.2.1 j _ h1).1, rfl, rfl, (fun e => by cases e), rfl⟩
section CopyG
variable {p : Program} {l : Launch} {e : Env} {R : Room} {s : State} {m : MethodId} {args : Array Value} {below : List Frame} {meth : Method} {c : Code} {D : va_G} {E : Nat → ClassId} {A : Nat → Prop} {cc : ByteArray} {nL : Nat} {own : String} {Q : State → Prop}
variable {σ : RS} {ex : va_W} {cells slots pc : Nat} {lv : List (Nat × Value)} {rest : List Value}
/-- System.arraycopy from an array of ints to a loose one -/
theorem g_copyi (C : cx p s m args meth c D E A cc nL own) {index a0 a n0 n1 : Nat} {f g : Nat → Int32} (hlink : Cond.methodLink own index arraycopyName ∈ GT) (hnat : Cond.native arraycopyName ∈ GT) (hstat : Cond.static arraycopyName ∈ GT) (hini : Cond.initialized "java/lang/System" ∈ GT)
    (hs0 : isArr E σ ex a0 0 n0 f) (j : Nat) (he : ex[j]? = some (a, .inl (E 0, n1, .inl g))) (hqa : A a) {sp dp n : Int32} (h1 : ¬ sp < 0) (h2 : ¬ dp < 0) (h3 : ¬ n < 0) (h4 : sp.toNatClampNeg + n.toNatClampNeg ≤ n0) (h5 : dp.toNatClampNeg + n.toNatClampNeg ≤ n1)
    (hframes : 1 ≤ R.frames) (hlocals : (rest.map fun v => v.category).sum + 18 ≤ R.locals) {ex' : va_W} (hex : ex.set j (a, .inl (E 0, n1, .inl (va_cpy f g sp.toNatClampNeg dp.toNatClampNeg n.toNatClampNeg))) = ex') (hd : decode cc pc = .ok (.invokestatic index, 3))
    (kk : G p l e R s m args below meth c D E A nL Q σ ex' cells slots (pc + 3) lv (rest)) : G p l e R s m args below meth c D E A nL Q σ ex cells slots (pc) lv (.int n :: .int dp :: .ref a :: .int sp :: .ref a0 :: rest) := fun H locs ls hw hs hl => by
  subst hex
  have nn : ∀ z : Int32, ¬ z < 0 → z.toInt = (z.toNatClampNeg : Int) := by
    intro z hz
    have hz0 : (0 : Int) ≤ z.toInt := by
      have := Int32.not_lt.mp hz
      simpa using Int32.le_iff_toInt_le.mp this
    show z.toInt = ((z.toInt.toNat : Nat) : Int)
    omega
  intro T hT X
  have hK := C.2.2.2.2.2.2.1
  obtain ⟨cs9, hc0, hcl0, hst0, hun0, hsl0⟩ := isArr_at hw hs0
  have hc1 : H[a]? = some (vp_cell (E 0) (n1, .inl g)) := (hw.2.2.1 j _ he).1
  obtain ⟨-, k0, hk0, cm0, hkk0⟩ := (hK.2 0 _ rfl).1 n0 (fun j => .int (f j))
  obtain ⟨-, k1, hk1, cm1, hkk1⟩ := (hK.2 0 _ rfl).1 n1 (fun j => .int (g j))
  obtain ⟨vm', X', step⟩ := X.arraycopy C.1 C.2.2.1 (C.2.2.2.1 _ hlink) (C.2.2.2.1 _ hnat) (C.2.2.2.1 _ hstat) (C.2.2.2.1 _ hini) (src := a0) (dst := a) (cs := cs9) (cd := vp_cell (E 0) (n1, .inl g)) (srcPos := sp) (destPos := dp) (n := n) (by rw [hT]; exact hc0) (by rw [hT]; exact hc1)
    (fun _ h => by rw [h] at hst0; cases hst0) (fun _ h => by cases h) hun0 (fun h => by cases h) (by rw [hcl0]; exact hk0) hk1 hkk0 hkk1 rfl h1 h2 h3
    (by rw [nn sp h1, nn n h3, hsl0]; show ¬ _ > ((arrV (E 0) n0 (fun j => .int (f j))).slots.size : Int); rw [arrV_size]; omega)
    (by rw [nn dp h2, nn n h3]; show ¬ _ > ((arrV (E 0) n1 (fun j => .int (g j))).slots.size : Int); rw [arrV_size]; omega)
    (fun vm₁ _ i hi => by
      have e : cs9.slots.getD (sp.toNatClampNeg + i) .null = .int (f (sp.toNatClampNeg + i)) := by
        rw [hsl0]
        show (arrV (E 0) n0 (fun j => .int (f j))).slots.getD _ _ = _
        rw [Array.getD_eq_getD_getElem?, arrV_read _ _ (by omega)]
        rfl
      refine ⟨?_, ?_⟩
      · rw [e]
        rfl
      · rw [e]
        exact trivial)
    (g := F0 m pc ls (.int n :: .int dp :: .ref a :: .int sp :: .ref a0 :: rest)) rfl (by rw [C.2.2.2.2.1]; exact hl.1) (rest := rest) rfl (by rw [C.2.1]; exact hd) hframes (by show 2 * 0 + _ + _ ≤ _; exact Nat.le_trans (by rw [Nat.zero_add, show nativeFrameWords "java/lang/System" "arraycopy" 5 = 7 by decide]; exact Nat.le_refl _) hlocals)
  have e1 : copied cs9 (vp_cell (E 0) (n1, .inl g)) sp dp n = vp_cell (E 0) (n1, .inl (va_cpy f g sp.toNatClampNeg dp.toNatClampNeg n.toNatClampNeg)) := (show copied cs9 (vp_cell (E 0) (n1, .inl g)) sp dp n = copied (vp_cell (E 0) (n0, .inl f)) (vp_cell (E 0) (n1, .inl g)) sp dp n by unfold copied Cell.stretch; rw [hsl0]).trans <| va_copied (fun z => .int z) (E 0) (E 0) f g h4
  rw [e1] at X' step
  have hl9 : a < H.size := (Array.getElem?_eq_some_iff.mp hc1).1
  have hheap : ((T.setVm vm').setCell a (vp_cell (E 0) (n1, .inl (va_cpy f g sp.toNatClampNeg dp.toNatClampNeg n.toNatClampNeg)))).heap = H.setIfInBounds a (vp_cell (E 0) (n1, .inl (va_cpy f g sp.toNatClampNeg dp.toNatClampNeg n.toNatClampNeg))) := by rw [← hT]; rfl
  have oq : ∀ q : Nat, q ≠ a → (H.setIfInBounds a (vp_cell (E 0) (n1, .inl (va_cpy f g sp.toNatClampNeg dp.toNatClampNeg n.toNatClampNeg))))[q]? = H[q]? := fun q hq => by simp [Array.getElem?_setIfInBounds, Ne.symm hq]
  obtain ⟨t, a1, b1⟩ := kk _ _ ls (wld_ex hw he (show (H.setIfInBounds a _)[a]? = some _ by simp [Array.getElem?_setIfInBounds, hl9]) oq) ⟨by simp; exact hs.1, fun q g1 g2 => by
      rw [oq q (fun e => g2 (by rw [e]; exact hqa))]
      exact hs.2.1 q g1 g2, fun q hq => by
      rcases List.mem_append.mp hq with h | h
      · exact hs.2.2 q h
      · obtain ⟨z, -, hz⟩ := List.mem_map.mp h
        rw [← hz]
        exact hqa⟩ hl _ hheap X'
  exact ⟨t, step t a1, b1⟩
theorem g_mmax (C : cx p s m args meth c D E A cc nL own) {index : Nat} (hlink : Cond.methodLink own index Lib.Math.max.name ∈ GT) (hstat : Cond.static Lib.Math.max.name ∈ GT) (hini : Cond.initialized "java/lang/Math" ∈ GT) (hcode : Cond.code Lib.Math.max.name Lib.Math.max.code 2 (some .int) ∈ GT) (hframes : 1 ≤ R.frames) (hlocals : (rest.map fun v => v.category).sum + 13 ≤ R.locals) (hc : cells ≤ R.cells) (hsl : slots ≤ R.slots) {x y : Int32} (hd : decode cc pc = .ok (.invokestatic index, 3))
    (kk : G p l e R s m args below meth c D E A nL Q σ ex cells slots (pc + 3) lv (.int (if x < y then y else x) :: rest)) : G p l e R s m args below meth c D E A nL Q σ ex cells slots (pc) lv (.int y :: .int x :: rest) := fun H locs ls hw hs hl =>
  va_mmax C.1 C.2.1 (by rw [C.2.2.2.2.1]; exact hl.1.symm) C.2.2.1 (C.2.2.2.1 _ hlink) (C.2.2.2.1 _ hstat) (C.2.2.2.1 _ hini) (C.2.2.2.1 _ hcode) hframes hlocals hc hsl hd (kk H locs ls hw hs hl)
theorem g_mmin (C : cx p s m args meth c D E A cc nL own) {index : Nat} (hlink : Cond.methodLink own index Lib.Math.min.name ∈ GT) (hstat : Cond.static Lib.Math.min.name ∈ GT) (hini : Cond.initialized "java/lang/Math" ∈ GT) (hcode : Cond.code Lib.Math.min.name Lib.Math.min.code 2 (some .int) ∈ GT) (hframes : 1 ≤ R.frames) (hlocals : (rest.map fun v => v.category).sum + 13 ≤ R.locals) (hc : cells ≤ R.cells) (hsl : slots ≤ R.slots) {x y : Int32} (hd : decode cc pc = .ok (.invokestatic index, 3))
    (kk : G p l e R s m args below meth c D E A nL Q σ ex cells slots (pc + 3) lv (.int (if y < x then y else x) :: rest)) : G p l e R s m args below meth c D E A nL Q σ ex cells slots (pc) lv (.int y :: .int x :: rest) := fun H locs ls hw hs hl =>
  va_mmin C.1 C.2.1 (by rw [C.2.2.2.2.1]; exact hl.1.symm) C.2.2.1 (C.2.2.2.1 _ hlink) (C.2.2.2.1 _ hstat) (C.2.2.2.1 _ hini) (C.2.2.2.1 _ hcode) hframes hlocals hc hsl hd (kk H locs ls hw hs hl)
end CopyG
