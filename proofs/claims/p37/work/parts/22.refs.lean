/-- reference arrays of tags -/
def oa (σ : RS) (k i : Nat) : Nat → Option Nat := fun j => if rP σ k i j = 0 then none else some (rA σ (eK k i) (rP σ k i j - 1))
/-- a whole row of indexes -/
def sQ (σ : RS) (k i : Nat) (f : Nat → Nat) : RS := (σ.1, σ.2.1, up2 (rP σ) k i f, σ.2.2.2)
theorem sQ_other (σ : RS) (k i : Nat) (f : Nat → Nat) : ∀ k' i', ¬ (k' = k ∧ i' = i) → rM (sQ σ k i f) k' i' = rM σ k' i' ∧ rP (sQ σ k i f) k' i' = rP σ k' i' := fun k' i' h => ⟨rfl, up2_n _ _ h⟩
theorem ct_oa {E : Nat → ClassId} {k i : Nat} {σ : RS} (h : knd k = 3) : ct E σ k i = .inl (E 2, rN σ k i, .inr (.inr (.inr (.inr (oa σ k i))))) := by
  show ctg E _ _ _ _ k i = _
  unfold ctg; rw [h]; rfl
theorem ct_qa {E : Nat → ClassId} {k i : Nat} {σ : RS} (h : knd k = 4) : ct E σ k i = .inl (E 3, rN σ k i, .inr (.inr (.inr (.inr (oa σ k i))))) := by
  show ctg E _ _ _ _ k i = _
  unfold ctg; rw [h]; rfl
theorem ct_ra {E : Nat → ClassId} {k i t : Nat} {σ : RS} (h : knd k = t + 1) (ht : t = 2 ∨ t = 3) : ct E σ k i = .inl (E t, rN σ k i, .inr (.inr (.inr (.inr (oa σ k i))))) := by
  rcases ht with rfl | rfl
  · exact ct_oa h
  · exact ct_qa h
def rT (t : Nat) : String := if t = 2 then "java/lang/Object" else "TradeLine$Quote"
theorem tys_ra {E : Nat → ClassId} {t : Nat} (ht : t = 2 ∨ t = 3) : (tysE E)[t]? = some (E t, .object (rT t)) := by
  rcases ht with rfl | rfl <;> rfl
theorem knd_eK {k i : Nat} (h : knd k = 3 ∨ knd k = 4) : knd (eK k i) = 0 ∧ eK k i ≠ k ∧ (eK k i = 6 ∨ eK k i = 7 ∨ eK k i = 20 ∨ eK k i = 23 ∨ eK k i = 25) := by
  have hk : k ≠ 6 ∧ k ≠ 7 ∧ k ≠ 20 ∧ k ≠ 23 ∧ k ≠ 25 := by
    refine ⟨?_, ?_, ?_, ?_, ?_⟩ <;> (rintro rfl; simp [knd] at h)
  have he : eK k i = 6 ∨ eK k i = 7 ∨ eK k i = 20 ∨ eK k i = 23 ∨ eK k i = 25 := by
    unfold eK
    split
    · omega
    · split <;> omega
  refine ⟨?_, by omega, he⟩
  rcases he with h | h | h | h | h <;> rw [h] <;> rfl
theorem oa_eq {σ σ' : RS} (k i : Nat) (hA : rA σ' = rA σ) (hP : rP σ' k i = rP σ k i) : oa σ' k i = oa σ k i := by
  unfold oa; rw [hA, hP]
section RefG
variable {p : Program} {l : Launch} {e : Env} {R : Room} {s : State} {m : MethodId} {args : Array Value} {below : List Frame} {meth : Method} {c : Code} {D : va_G} {E : Nat → ClassId} {A : Nat → Prop} {cc : ByteArray} {nL : Nat} {own : String} {Q : State → Prop}
variable {σ : RS} {ex : va_W} {cells slots pc : Nat} {lv : List (Nat × Value)} {rest : List Value}
theorem g_aald (C : cx p s m args meth c D E A cc nL own) (t : Nat) {k i q v : Nat} {n : Int32} (ht : t = 2 ∨ t = 3) (hq : rA σ k i = q) (hlv : live σ k i) (hkn : knd k = t + 1) (hin : vp_in n (rN σ k i)) (hv : rP σ k i n.toNatClampNeg = v + 1) (hd : decode cc pc = .ok (.aaload, 1)) (kk : G p l e R s m args below meth c D E A nL Q σ ex cells slots (pc + 1) lv (.ref (rA σ (eK k i) v) :: rest)) (h31 : k ≠ 31 := by decide) : G p l e R s m args below meth c D E A nL Q σ ex cells slots (pc) lv (.int n :: .ref q :: rest) := fun H locs ls hw hs hl => by
  refine va_aldq C.1 C.2.1 C.2.2.2.2.2.2.1 (wld_one hw hlv hq (fun h => by subst h; have h9 : (1 : Nat) = t + 1 := hkn; omega) h31) 0 t (cA := E t) (n := rN σ k i) (f := oa σ k i) (by rw [ct_ra hkn ht]; rfl) (tys_ra ht) hin hd ?_
  have e : va_rf (oa σ k i n.toNatClampNeg) = .ref (rA σ (eK k i) v) := by
    unfold oa; rw [hv, if_neg (by omega)]; rfl
  rw [e]
  exact kk H locs ls hw hs hl
theorem oa_sP (σ : RS) (k i j v : Nat) : oa (sP σ k i j v) k i = va_up (oa σ k i) j (if v = 0 then none else some (rA σ (eK k i) (v - 1))) := by
  funext z
  unfold oa va_up
  rw [rP_sP]
  unfold up1
  by_cases h : z = j
  · rw [if_pos h, if_pos h]; rfl
  · rw [if_neg h, if_neg h]; rfl
theorem g_aastN (C : cx p s m args meth c D E A cc nL own) (t : Nat) {k i q : Nat} {n : Int32} (ht : t = 2 ∨ t = 3) (hq : rA σ k i = q) (hlv : live σ k i) (hne : k ≠ 30 ∧ k ≠ 31) (hkn : knd k = t + 1) (hin : vp_in n (rN σ k i)) (hd : decode cc pc = .ok (.aastore, 1)) (kk : G p l e R s m args below meth c D E A nL Q (sP σ k i n.toNatClampNeg 0) ex cells slots (pc + 1) lv (rest)) : G p l e R s m args below meth c D E A nL Q σ ex cells slots (pc) lv (.null :: .int n :: .ref q :: rest) := fun H locs ls hw hs hl => by
  subst hq
  have hat := (hw.1 k i hlv).1.to hne.1 hne.2
  rw [ct_ra hkn ht] at hat
  have hat : H[rA σ k i]? = some (vp_cell (E t) (rN σ k i, .inr (.inr (.inr (.inr (oa σ k i)))))) := hat
  refine va_WaastN (C := rT t) C.1 C.2.1 hat ((C.2.2.2.2.2.2.1.2 t _ (tys_ra ht)).1 _ (fun j => va_rf (oa σ k i j))) (fun h => by cases h) (by show ¬ (n < 0 ∨ (arrV _ _ _).slots.size ≤ _); rw [arrV_size]; exact hin) rfl rfl hd fun H1 e z oq => ?_
  refine kk H1 _ ls (wld_cell (σ' := sP σ k i n.toNatClampNeg 0) hw hlv rfl rfl (sP_other σ k i _ _) ?_ oq) (hs.put z oq ((hw.1 k i hlv).2 hne.1 hne.2)) hl
  rw [ct_ra hkn ht, oa_sP]
  show H1[_]? = some (vp_cell _ _)
  rw [e]
  show some ((vp_cell (E t) (rN σ k i, .inr (.inr (.inr (.inr (oa σ k i)))))).setSlot _ _) = some (vp_cell (E t) (rN σ k i, .inr (.inr (.inr (.inr (va_up (oa σ k i) n.toNatClampNeg none))))))
  rw [vp_cell_q, vp_cell_q, arrV_store]
  congr 2
  funext q
  by_cases hq : q = n.toNatClampNeg
  · subst hq
    simp [updV, va_up, va_rf]
  · simp [updV, va_up, hq]
/-- a live object is stored -/
theorem g_aast (C : cx p s m args meth c D E A cc nL own) (t : Nat) {k i q y v : Nat} {r : vw_C} {n : Int32} (ht : t = 2 ∨ t = 3) (hq : rA σ k i = q) (hlv : live σ k i) (hne : k ≠ 30 ∧ k ≠ 31) (hkn : knd k = t + 1) (hin : vp_in n (rN σ k i)) (hy : rA σ (eK k i) v = y) (hle : live σ (eK k i) v) (hr : vwCl[cK (eK k i)]? = some r) (hca : ∀ comp c0 : ClassId, s.vm.findClass (rT t) = some comp → ClassAt s r.1 c0 → s.vm.assignable c0 comp = true) (hd : decode cc pc = .ok (.aastore, 1)) (kk : G p l e R s m args below meth c D E A nL Q (sP σ k i n.toNatClampNeg (v + 1)) ex cells slots (pc + 1) lv (rest)) : G p l e R s m args below meth c D E A nL Q σ ex cells slots (pc) lv (.ref y :: .int n :: .ref q :: rest) := fun H locs ls hw hs hl => by
  subst hq hy
  have hK := C.2.2.2.2.2.2.1
  have hat := (hw.1 k i hlv).1.to hne.1 hne.2
  rw [ct_ra hkn ht] at hat
  have hat : H[rA σ k i]? = some (vp_cell (E t) (rN σ k i, .inr (.inr (.inr (.inr (oa σ k i)))))) := hat
  have hlt : n.toNatClampNeg < rN σ k i := Nat.not_le.mp fun q => hin (Or.inr q)
  have h0 : ¬ n < 0 := fun q => hin (Or.inl q)
  have hke := (knd_eK (k := k) (i := i) (by rw [hkn]; omega)).1
  have hel := (hw.1 _ _ hle).1.to (fun h => by rw [h] at hke; cases hke) (fun h => by rw [h] at hke; cases hke)
  rw [ct_obj hke] at hel
  obtain ⟨r', hr', cellV, g1, g2, g3, -⟩ := hel
  have hcls := (hK.1 _ _ hr).2
  obtain ⟨kA, comp, k1, k2, k3, -⟩ := (hK.2 t _ (tys_ra ht)).2
  obtain ⟨kE, hkE, -⟩ := Vm.findClass_spec k3
  obtain ⟨kC, hkC, -⟩ := hcls.2
  refine W.aast C.1 C.2.1 hat (fun q h => by cases h) (fun h => by cases h) k1 k2 rfl hkE ⟨h0, by show _ < (arrV _ _ _).slots.size; rw [arrV_size]; exact hlt⟩ g1 (fun q h => by rw [g3] at h; cases h) (by rw [g2]; exact hkC) (by rw [g2]; exact hca _ _ k3 hcls) rfl rfl hd fun H1 e z oq => ?_
  refine kk H1 _ ls (wld_cell (σ' := sP σ k i n.toNatClampNeg (v + 1)) hw hlv rfl rfl (sP_other σ k i _ _) ?_ oq) (hs.put z oq ((hw.1 k i hlv).2 hne.1 hne.2)) hl
  rw [ct_ra hkn ht, oa_sP]
  show H1[_]? = some (vp_cell _ _)
  rw [e]
  show some ((vp_cell (E t) (rN σ k i, .inr (.inr (.inr (.inr (oa σ k i)))))).setSlot _ _) = some (vp_cell (E t) (rN σ k i, .inr (.inr (.inr (.inr (va_up (oa σ k i) n.toNatClampNeg (some (rA σ (eK k i) v))))))))
  rw [vp_cell_q, vp_cell_q, arrV_store]
  congr 2
  funext q
  by_cases hq : q = n.toNatClampNeg
  · subst hq
    simp [updV, va_up, va_rf]
  · simp [updV, va_up, hq]
end RefG
