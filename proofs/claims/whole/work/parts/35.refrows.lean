/-! THE REFERENCE: its registers are one function a : field number, place. A field of ints is field number 0's row. -/
abbrev AS : Type := Nat → Nat → Int32
abbrev YR : Type := (Nat → Nat → Nat) × (Nat → Nat → Nat → Nat) × (Nat → Nat) × (Nat → Nat → Nat)
/-- the registers of all, of those of the reference and of the others -/
def mx (M : Nat → Nat → Nat → Int32) (a : AS) : Nat → Nat → Nat → Int32 := fun k i => bif Nat.ble 40 k && Nat.ble k 89 && Nat.beq i 0 then a (k - 40) else M k i
abbrev yS (M : Nat → Nat → Nat → Int32) (a : AS) (ρ : YR) : RS := (mx M a, ρ)
theorem mx_at (M : Nat → Nat → Nat → Int32) (a : AS) {j : Nat} (h : Nat.ble j 49 = true) : mx M a (40 + j) 0 = a j := by
  have h1 := Nat.le_of_ble_eq_true h
  unfold mx
  rw [show Nat.ble 40 (40 + j) = true from Nat.ble_eq_true_of_le (by omega), show Nat.ble (40 + j) 89 = true from Nat.ble_eq_true_of_le (by omega), show 40 + j - 40 = j by omega]
  rfl
theorem mx_up (M : Nat → Nat → Nat → Int32) (a : AS) {j : Nat} (z : Nat) (x : Int32) (h : Nat.ble j 49 = true) : up3 (mx M a) (40 + j) 0 z x = mx M (up2 a j z x) := by
  have h1 := Nat.le_of_ble_eq_true h
  funext k i
  by_cases hc : k = 40 + j ∧ i = 0
  · obtain ⟨rfl, rfl⟩ := hc
    rw [up3_s, mx_at M a h, mx_at M _ h, up2, up1_s]
  · rw [up3_n _ _ hc]
    unfold mx
    cases hb : (Nat.ble 40 k && Nat.ble k 89 && Nat.beq i 0) with
    | false => rfl
    | true =>
      simp only [Bool.and_eq_true] at hb
      have h2 := Nat.le_of_ble_eq_true hb.1.1
      have h3 := Nat.eq_of_beq_eq_true hb.2
      show a (k - 40) = up2 a j z x (k - 40)
      rw [up2, up1_n _ _ (show k - 40 ≠ j by omega)]
def yLen : List (Nat × Nat) := [(3, 2), (4, 2), (5, 2), (6, 2), (7, 2), (8, 2), (9, 2), (10, 2), (11, 16384), (12, 16384), (13, 16384), (14, 16384), (15, 16384), (16, 16384), (17, 16384), (18, 16384), (19, 2), (20, 2), (21, 131072), (23, 40), (24, 80), (25, 80), (26, 80), (27, 80), (28, 80), (29, 40), (30, 40), (31, 40), (33, 6), (34, 6), (36, 100), (37, 100), (38, 100), (39, 100), (40, 100), (41, 200), (42, 200), (43, 200)]
/-- the reference's cells are there, of their lengths -/
def rsh (ρ : YR) : Prop := 0 < ρ.2.2.1 40 ∧ ∀ q ∈ yLen, 0 < ρ.2.2.1 (40 + q.1) ∧ ρ.1 (40 + q.1) 0 = q.2
def ixB (n : Int32) (N : Nat) : Bool := !decide (n < 0) && !decide (N ≤ n.toNatClampNeg)
def boB (x : Int32) : Bool := decide (x = 0) || decide (x = 1)
theorem ixB_in {n : Int32} {N : Nat} (h : ixB n N = true) : vp_in n N := by
  unfold ixB at h
  simp only [Bool.and_eq_true, Bool.not_eq_true', decide_eq_false_iff_not] at h
  exact fun q => q.elim h.1 h.2
theorem boB_n {x : Int32} (h : boB x = true) : narrow .boolean (.int x) = .int x := by
  unfold boB at h
  simp only [Bool.or_eq_true, decide_eq_true_eq] at h
  rcases h with rfl | rfl <;> rfl
theorem boB_f {x : Int32} (h : boB x = true) : fits .boolean (.int x) = true := by
  unfold boB at h
  simp only [Bool.or_eq_true, decide_eq_true_eq] at h
  rcases h with rfl | rfl <;> rfl
theorem of_guard {α : Type} {b : Bool} {x : Option α} {y : α} (h : (bif b then x else none) = some y) : b = true ∧ x = some y := by
  cases b with
  | false => exact absurd h (by simp)
  | true => exact ⟨rfl, h⟩
def yl {α β : Type} (x : α) (f : α → β) : β := f x
theorem yl_of {α β : Type} {x y : α} {f : α → β} {z : β} (h : yl x f = z) (e : x = y) : f y = z := by subst e; exact h
theorem bind_of {α β : Type} {x : Option α} {f : α → Option β} {y : β} (h : x.bind f = some y) : ∃ v, x = some v ∧ f v = some y := Option.bind_eq_some_iff.mp h
theorem ne_i {x v : Int32} {n : Int} (h : ¬ x = v) (hv : v.toInt = n) : x.toInt ≠ n := fun e => h (Int32.toInt_inj.mp (e.trans hv.symm))
section RefG
variable {p : Program} {l : Launch} {e : Env} {R : Room} {s : State} {m : MethodId} {args : Array Value} {below : List Frame} {meth : Method} {c : Code} {D : va_G} {E : Nat → ClassId} {A : Nat → Prop} {cc : ByteArray} {nL : Nat} {own : String} {Q : State → Prop}
variable {M : Nat → Nat → Nat → Int32} {a : AS} {ρ : YR} {σ : RS} {ex : va_W} {cells slots pc : Nat} {lv : List (Nat × Value)} {rest : List Value}
theorem lvY (hρ : rsh ρ) {j N : Nat} (h : (j, N) ∈ yLen) : live (mx M a, ρ) (40 + j) 0 := ⟨(hρ.2 _ h).1, fun e => absurd e (by omega)⟩
theorem lvY0 (hρ : rsh ρ) : live (mx M a, ρ) 40 0 := ⟨hρ.1, fun e => absurd e (by omega)⟩
theorem q_topi {x : Int32} (k : ∀ y : Int32, x = y → G p l e R s m args below meth c D E A nL Q σ ex cells slots (pc) lv (.int y :: rest)) : G p l e R s m args below meth c D E A nL Q σ ex cells slots (pc) lv (.int x :: rest) := k x rfl
theorem q_iald (C : cx p s m args meth c D E A cc nL own) (hρ : rsh ρ) {j N : Nat} {n : Int32} (hm : (j, N) ∈ yLen) (hkn : knd (40 + j) = 1) (hj : Nat.ble j 49 = true) (hin : ixB n N = true) (hd : decode cc pc = .ok (.iaload, 1)) (kk : G p l e R s m args below meth c D E A nL Q (mx M a, ρ) ex cells slots (pc + 1) lv (.int (a j n.toNatClampNeg) :: rest)) : G p l e R s m args below meth c D E A nL Q (mx M a, ρ) ex cells slots (pc) lv (.int n :: .ref (ρ.2.2.2 (40 + j) 0) :: rest) :=
  g_iald (k := 40 + j) (i := 0) C rfl (lvY hρ hm) hkn (by show vp_in n (ρ.1 (40 + j) 0); rw [(hρ.2 _ hm).2]; exact ixB_in hin) hd (by show G p l e R s m args below meth c D E A nL Q (mx M a, ρ) ex cells slots (pc + 1) lv (.int (mx M a (40 + j) 0 n.toNatClampNeg) :: rest); rw [mx_at M a hj]; exact kk)
theorem q_zald (C : cx p s m args meth c D E A cc nL own) (hρ : rsh ρ) {j N : Nat} {n : Int32} (hm : (j, N) ∈ yLen) (hkn : knd (40 + j) = 2) (hj : Nat.ble j 49 = true) (hin : ixB n N = true) (hd : decode cc pc = .ok (.baload, 1)) (kk : G p l e R s m args below meth c D E A nL Q (mx M a, ρ) ex cells slots (pc + 1) lv (.int (a j n.toNatClampNeg) :: rest)) : G p l e R s m args below meth c D E A nL Q (mx M a, ρ) ex cells slots (pc) lv (.int n :: .ref (ρ.2.2.2 (40 + j) 0) :: rest) :=
  g_zald (k := 40 + j) (i := 0) C rfl (lvY hρ hm) hkn (by show vp_in n (ρ.1 (40 + j) 0); rw [(hρ.2 _ hm).2]; exact ixB_in hin) hd (by show G p l e R s m args below meth c D E A nL Q (mx M a, ρ) ex cells slots (pc + 1) lv (.int (mx M a (40 + j) 0 n.toNatClampNeg) :: rest); rw [mx_at M a hj]; exact kk)
theorem q_iast (C : cx p s m args meth c D E A cc nL own) (hρ : rsh ρ) {j N : Nat} {n x : Int32} (hm : (j, N) ∈ yLen) (hkn : knd (40 + j) = 1) (hj : Nat.ble j 49 = true) (hin : ixB n N = true) (hd : decode cc pc = .ok (.iastore, 1)) (kk : ∀ a' : AS, up2 a j n.toNatClampNeg x = a' → G p l e R s m args below meth c D E A nL Q (mx M a', ρ) ex cells slots (pc + 1) lv (rest)) : G p l e R s m args below meth c D E A nL Q (mx M a, ρ) ex cells slots (pc) lv (.int x :: .int n :: .ref (ρ.2.2.2 (40 + j) 0) :: rest) :=
  g_iast (k := 40 + j) (i := 0) C rfl (lvY hρ hm) ⟨by omega, by omega⟩ hkn (by show vp_in n (ρ.1 (40 + j) 0); rw [(hρ.2 _ hm).2]; exact ixB_in hin) hd (by show G p l e R s m args below meth c D E A nL Q (up3 (mx M a) (40 + j) 0 n.toNatClampNeg x, ρ) ex cells slots (pc + 1) lv rest; rw [mx_up M a _ _ hj]; exact kk _ rfl)
theorem q_zast (C : cx p s m args meth c D E A cc nL own) (hρ : rsh ρ) {j N : Nat} {n x : Int32} (hm : (j, N) ∈ yLen) (hkn : knd (40 + j) = 2) (hj : Nat.ble j 49 = true) (hin : ixB n N = true) (hd : decode cc pc = .ok (.bastore, 1)) (kk : ∀ a' : AS, up2 a j n.toNatClampNeg (vp_nar .boolean x) = a' → G p l e R s m args below meth c D E A nL Q (mx M a', ρ) ex cells slots (pc + 1) lv (rest)) : G p l e R s m args below meth c D E A nL Q (mx M a, ρ) ex cells slots (pc) lv (.int x :: .int n :: .ref (ρ.2.2.2 (40 + j) 0) :: rest) :=
  g_zast (k := 40 + j) (i := 0) C rfl (lvY hρ hm) ⟨by omega, by omega⟩ hkn (by show vp_in n (ρ.1 (40 + j) 0); rw [(hρ.2 _ hm).2]; exact ixB_in hin) hd (by show G p l e R s m args below meth c D E A nL Q (up3 (mx M a) (40 + j) 0 n.toNatClampNeg (vp_nar .boolean x), ρ) ex cells slots (pc + 1) lv rest; rw [mx_up M a _ _ hj]; exact kk _ rfl)
/-- a field of ints of the reference is written -/
theorem q_put (C : cx p s m args meth c D E A cc nL own) (hρ : rsh ρ) {index j : Nat} {x : Int32} {ty : FieldType} (hj : j < 45) (hlink : Cond.fieldLink own index "TradeLineModel" (TX9 j).2.1 (TX9 j).2.2.1 ∈ GT) (h1 : (TX9 j).1 = "TradeLineModel") (hfin : (TX9 j).2.2.2 = false) (hde : parseFieldDescriptor (TX9 j).2.2.1 = some ty) (hn : narrow ty (.int x) = .int x) (hfit : fits ty (.int x) = true) (hset : fvs (up1 (a 0) j x) ρ.1 (ρ.2.1 40 0) ρ.2.2.2 40 0 = (fvs (a 0) ρ.1 (ρ.2.1 40 0) ρ.2.2.2 40 0).set j (.int x)) (hd : decode cc pc = .ok (.putfield index, 3)) (kk : ∀ a' : AS, up2 a 0 j x = a' → G p l e R s m args below meth c D E A nL Q (mx M a', ρ) ex cells slots (pc + 3) lv (rest)) : G p l e R s m args below meth c D E A nL Q (mx M a, ρ) ex cells slots (pc) lv (.int x :: .ref (ρ.2.2.2 40 0) :: rest) :=
  g_put (k := 40) (i := 0) (ref := "TradeLineModel") C rfl (lvY0 hρ) rfl rfl inGX9 tyX9 tyX9_ok nmX9 j hj hlink (by rw [h1]; exact fun _ h => h) hfin hde hn hfit (by show j < 45; exact hj) hset hd (by show G p l e R s m args below meth c D E A nL Q (up3 (mx M a) (40 + 0) 0 j x, ρ) ex cells slots (pc + 3) lv rest; rw [mx_up M a _ _ rfl]; exact kk _ rfl)
theorem g_tswI (C : cx p s m args meth c D E A cc nL own) {dflt lo hi : Int} {offs : Array Int} {len : Nat} {x v : Int32} {off : Int} {tgt : Nat} (hd : decode cc pc = .ok (.tableswitch dflt lo hi offs, len)) (hx : x = v) (h : (¬ v.toInt < lo) ∧ ¬ hi < v.toInt) (ho : offs[(v.toInt - lo).toNat]? = some off) (ht : (pc : Int) + off = (tgt : Int)) (kk : G p l e R s m args below meth c D E A nL Q σ ex cells slots (tgt) lv (rest)) : G p l e R s m args below meth c D E A nL Q σ ex cells slots (pc) lv (.int x :: rest) := fun H locs ls hw hs hl => by
  subst hx
  exact lv_tableIn C.1 C.2.1 hd h.1 h.2 ho ht (kk H locs ls hw hs hl)
theorem g_tswO (C : cx p s m args meth c D E A cc nL own) {dflt lo hi : Int} {offs : Array Int} {len : Nat} {x : Int32} {tgt : Nat} (hd : decode cc pc = .ok (.tableswitch dflt lo hi offs, len)) (h : x.toInt < lo ∨ hi < x.toInt) (ht : (pc : Int) + dflt = (tgt : Int)) (kk : G p l e R s m args below meth c D E A nL Q σ ex cells slots (tgt) lv (rest)) : G p l e R s m args below meth c D E A nL Q σ ex cells slots (pc) lv (.int x :: rest) := fun H locs ls hw hs hl =>
  lv_tableOut C.1 C.2.1 hd h ht (kk H locs ls hw hs hl)
end RefG
