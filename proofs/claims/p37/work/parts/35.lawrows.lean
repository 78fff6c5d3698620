/-! THE LAW'S ARRAYS: one function a : number of the array, place. Longs lie in pairs. -/
abbrev AS : Type := Nat → Nat → Int32
abbrev YR : Type := (Nat → Nat → Nat) × (Nat → Nat → Nat → Nat) × (Nat → Nat) × (Nat → Nat → Nat)
/-- the registers of all, of those of the reference and of the others -/
def mx (M : Nat → Nat → Nat → Int32) (a : AS) : Nat → Nat → Nat → Int32 := fun k i => bif Nat.ble 40 k && Nat.ble k 89 && Nat.beq i 0 then a (k - 40) else M k i
abbrev yS (M : Nat → Nat → Nat → Int32) (a : AS) (ρ : YR) : RS := (mx M a, ρ)
theorem mx_at (M : Nat → Nat → Nat → Int32) (a : AS) {j : Nat} (h : Nat.ble j 49 = true) : mx M a (40 + j) 0 = a j := by
  have h1 := Nat.le_of_ble_eq_true h
  unfold mx
  rw [show Nat.ble 40 (40 + j) = true from Nat.ble_eq_true_of_le (by omega), show Nat.ble (40 + j) 89 = true from Nat.ble_eq_true_of_le (by omega), show 40 + j - 40 = j by omega]
  rfl
theorem mx_up (M : Nat → Nat → Nat → Int32) (a : AS) {j : Nat} (z : Nat) (x : Int32) (h : Nat.ble j 49 = true) : up3 (mx M a) (40 + j) 0 z x = mx M (up2 a j z x) := by
  have h1 := Nat.le_of_ble_eq_true h
  funext k i
  by_cases hc : k = 40 + j ∧ i = 0
  · obtain ⟨rfl, rfl⟩ := hc
    rw [up3_s, mx_at M a h, mx_at M _ h, up2, up1_s]
  · rw [up3_n _ _ hc]
    unfold mx
    cases hb : (Nat.ble 40 k && Nat.ble k 89 && Nat.beq i 0) with
    | false => rfl
    | true =>
      simp only [Bool.and_eq_true] at hb
      have h2 := Nat.le_of_ble_eq_true hb.1.1
      have h3 := Nat.eq_of_beq_eq_true hb.2
      show a (k - 40) = up2 a j z x (k - 40)
      rw [up2, up1_n _ _ (show k - 40 ≠ j by omega)]

def iLen : List (Nat × Nat) := [(1, 22), (6, 64), (7, 64), (8, 20), (9, 20), (10, 20), (11, 20), (12, 10), (14, 6)]
def lLen : List (Nat × Nat) := [(2, 64), (3, 64), (4, 64), (5, 64), (13, 60)]
/-- the law's arrays are there, of their lengths -/
def rsh (ρ : YR) : Prop := ∀ q ∈ iLen ++ lLen, 0 < ρ.2.2.1 (40 + q.1) ∧ ρ.1 (40 + q.1) 0 = q.2
def inB (j N : Nat) : Bool := decide ((j, N) ∈ iLen)
def lnB (j N : Nat) : Bool := decide ((j, N) ∈ lLen)
theorem inB_k {j N : Nat} (h : inB j N = true) : knd (40 + j) = 1 ∧ Nat.ble j 49 = true := by
  have hh : ∀ q ∈ iLen, knd (40 + q.1) = 1 ∧ Nat.ble q.1 49 = true := by decide
  exact hh _ (of_decide_eq_true h)
theorem lnB_k {j N : Nat} (h : lnB j N = true) : knd (40 + j) = 5 ∧ Nat.ble j 49 = true := by
  have hh : ∀ q ∈ lLen, knd (40 + q.1) = 5 ∧ Nat.ble q.1 49 = true := by decide
  exact hh _ (of_decide_eq_true h)
/-- a long of the array j -/
def lgA (a : AS) (j i : Nat) : Int64 := mkL (a j (2 * i)) (a j (2 * i + 1))
def wLg (a : AS) (j i : Nat) (v : Int64) : AS := up2 (up2 a j (2 * i) (loL v)) j (2 * i + 1) (hiL v)
theorem lgA_s (a : AS) (j i : Nat) (v : Int64) : lgA (wLg a j i v) j i = v := by
  unfold lgA wLg
  rw [up2_s, up2_n _ _ (by omega), up2_s, mkL_of]
theorem lgA_n (a : AS) (j i : Nat) (v : Int64) {j' i' : Nat} (h : ¬ (j' = j ∧ i' = i)) : lgA (wLg a j i v) j' i' = lgA a j' i' := by
  unfold lgA wLg
  rw [up2_n _ _ (by omega), up2_n _ _ (by omega), up2_n _ _ (by omega), up2_n _ _ (by omega)]
theorem wLg_n (a : AS) (j i : Nat) (v : Int64) {j' : Nat} (h : j' ≠ j) (i' : Nat) : wLg a j i v j' i' = a j' i' := by
  unfold wLg
  rw [up2_n _ _ (by omega), up2_n _ _ (by omega)]
theorem lgA_up (a : AS) (j i : Nat) (v : Int32) {j' : Nat} (h : j' ≠ j) (i' : Nat) : lgA (up2 a j i v) j' i' = lgA a j' i' := by
  unfold lgA
  rw [up2_n _ _ (by omega), up2_n _ _ (by omega)]
theorem mx_wLg (M : Nat → Nat → Nat → Int32) (a : AS) {j : Nat} (i : Nat) (v : Int64) (h : Nat.ble j 49 = true) : up3 (up3 (mx M a) (40 + j) 0 (2 * i) (loL v)) (40 + j) 0 (2 * i + 1) (hiL v) = mx M (wLg a j i v) := by
  rw [mx_up M a _ _ h, mx_up M _ _ _ h]; rfl
def nzI (x : Int32) : Bool := !decide (x = 0)
theorem nzI_n {x : Int32} (h : nzI x = true) : ¬ x = 0 := by
  unfold nzI at h
  simpa using h
def lcv (x y : Int64) : Int32 := if y < x then 1 else if x = y then 0 else -1
theorem lcv_0 (x y : Int64) : lcv x y = 0 ↔ x = y := by
  unfold lcv
  by_cases h1 : y < x
  · rw [if_pos h1]; exact ⟨fun h => absurd h (by decide), fun h => absurd (h ▸ h1) Int64.lt_irrefl⟩
  · rw [if_neg h1]
    by_cases h2 : x = y
    · rw [if_pos h2]; exact ⟨fun _ => h2, fun _ => rfl⟩
    · rw [if_neg h2]; exact ⟨fun h => absurd h (by decide), fun h => absurd h h2⟩

def ixB (n : Int32) (N : Nat) : Bool := !decide (n < 0) && !decide (N ≤ n.toNatClampNeg)
def boB (x : Int32) : Bool := decide (x = 0) || decide (x = 1)
theorem ixB_in {n : Int32} {N : Nat} (h : ixB n N = true) : vp_in n N := by
  unfold ixB at h
  simp only [Bool.and_eq_true, Bool.not_eq_true', decide_eq_false_iff_not] at h
  exact fun q => q.elim h.1 h.2
theorem boB_n {x : Int32} (h : boB x = true) : narrow .boolean (.int x) = .int x := by
  unfold boB at h
  simp only [Bool.or_eq_true, decide_eq_true_eq] at h
  rcases h with rfl | rfl <;> rfl
theorem boB_f {x : Int32} (h : boB x = true) : fits .boolean (.int x) = true := by
  unfold boB at h
  simp only [Bool.or_eq_true, decide_eq_true_eq] at h
  rcases h with rfl | rfl <;> rfl
theorem of_guard {α : Type} {b : Bool} {x : Option α} {y : α} (h : (bif b then x else none) = some y) : b = true ∧ x = some y := by
  cases b with
  | false => exact absurd h (by simp)
  | true => exact ⟨rfl, h⟩
def yl {α β : Type} (x : α) (f : α → β) : β := f x
theorem yl_of {α β : Type} {x y : α} {f : α → β} {z : β} (h : yl x f = z) (e : x = y) : f y = z := by subst e; exact h
theorem bind_of {α β : Type} {x : Option α} {f : α → Option β} {y : β} (h : x.bind f = some y) : ∃ v, x = some v ∧ f v = some y := Option.bind_eq_some_iff.mp h
theorem ne_i {x v : Int32} {n : Int} (h : ¬ x = v) (hv : v.toInt = n) : x.toInt ≠ n := fun e => h (Int32.toInt_inj.mp (e.trans hv.symm))

section RefG
variable {p : Program} {l : Launch} {e : Env} {R : Room} {s : State} {m : MethodId} {args : Array Value} {below : List Frame} {meth : Method} {c : Code} {D : va_G} {E : Nat → ClassId} {A : Nat → Prop} {cc : ByteArray} {nL : Nat} {own : String} {Q : State → Prop}
variable {M : Nat → Nat → Nat → Int32} {a : AS} {ρ : YR} {σ : RS} {ex : va_W} {cells slots pc : Nat} {lv : List (Nat × Value)} {rest : List Value}

theorem lvI (hρ : rsh ρ) {j N : Nat} (h : inB j N = true) : live (mx M a, ρ) (40 + j) 0 := ⟨(hρ _ (List.mem_append_left _ (of_decide_eq_true h))).1, fun e => absurd e (by omega)⟩
theorem lvL (hρ : rsh ρ) {j N : Nat} (h : lnB j N = true) : live (mx M a, ρ) (40 + j) 0 := ⟨(hρ _ (List.mem_append_right _ (of_decide_eq_true h))).1, fun e => absurd e (by omega)⟩
theorem lenI (hρ : rsh ρ) {j N : Nat} (h : inB j N = true) : ρ.1 (40 + j) 0 = N := (hρ _ (List.mem_append_left _ (of_decide_eq_true h))).2
theorem lenL (hρ : rsh ρ) {j N : Nat} (h : lnB j N = true) : ρ.1 (40 + j) 0 = N := (hρ _ (List.mem_append_right _ (of_decide_eq_true h))).2
theorem q_topi {x : Int32} (k : ∀ y : Int32, x = y → G p l e R s m args below meth c D E A nL Q σ ex cells slots (pc) lv (.int y :: rest)) : G p l e R s m args below meth c D E A nL Q σ ex cells slots (pc) lv (.int x :: rest) := k x rfl
theorem q_topl {x : Int64} (k : ∀ y : Int64, x = y → G p l e R s m args below meth c D E A nL Q σ ex cells slots (pc) lv (.long y :: rest)) : G p l e R s m args below meth c D E A nL Q σ ex cells slots (pc) lv (.long x :: rest) := k x rfl
theorem q_iald (C : cx p s m args meth c D E A cc nL own) (hρ : rsh ρ) {j N q : Nat} {n : Int32} (hm : inB j N = true) (hq : ρ.2.2.2 (40 + j) 0 = q) (hin : ixB n N = true) (hd : decode cc pc = .ok (.iaload, 1)) (kk : G p l e R s m args below meth c D E A nL Q (mx M a, ρ) ex cells slots (pc + 1) lv (.int (a j n.toNatClampNeg) :: rest)) : G p l e R s m args below meth c D E A nL Q (mx M a, ρ) ex cells slots pc lv (.int n :: .ref q :: rest) :=
  g_iald (k := 40 + j) (i := 0) C hq (lvI hρ hm) (inB_k hm).1 (by show vp_in n (ρ.1 (40 + j) 0); rw [lenI hρ hm]; exact ixB_in hin) hd (by show G p l e R s m args below meth c D E A nL Q (mx M a, ρ) ex cells slots (pc + 1) lv (.int (mx M a (40 + j) 0 n.toNatClampNeg) :: rest); rw [mx_at M a (inB_k hm).2]; exact kk)
theorem q_iast (C : cx p s m args meth c D E A cc nL own) (hρ : rsh ρ) {j N q : Nat} {n x : Int32} (hm : inB j N = true) (hq : ρ.2.2.2 (40 + j) 0 = q) (hin : ixB n N = true) (hd : decode cc pc = .ok (.iastore, 1)) (kk : ∀ a' : AS, up2 a j n.toNatClampNeg x = a' → G p l e R s m args below meth c D E A nL Q (mx M a', ρ) ex cells slots (pc + 1) lv rest) : G p l e R s m args below meth c D E A nL Q (mx M a, ρ) ex cells slots pc lv (.int x :: .int n :: .ref q :: rest) :=
  g_iast (k := 40 + j) (i := 0) C hq (lvI hρ hm) ⟨by omega, by omega⟩ (inB_k hm).1 (by show vp_in n (ρ.1 (40 + j) 0); rw [lenI hρ hm]; exact ixB_in hin) hd (by show G p l e R s m args below meth c D E A nL Q (up3 (mx M a) (40 + j) 0 n.toNatClampNeg x, ρ) ex cells slots (pc + 1) lv rest; rw [mx_up M a _ _ (inB_k hm).2]; exact kk _ rfl)
theorem ct_la {k i : Nat} {σ : RS} (h : knd k = 5) : ct E σ k i = .inl (E 4, rN σ k i, .inr (.inl (fun j => mkL (rM σ k i (2 * j)) (rM σ k i (2 * j + 1))))) := by
  show ctg E _ _ _ _ k i = _
  unfold ctg; rw [h]; rfl
theorem q_lald (C : cx p s m args meth c D E A cc nL own) (hρ : rsh ρ) {j N q : Nat} {n : Int32} (hm : lnB j N = true) (hq : ρ.2.2.2 (40 + j) 0 = q) (hin : ixB n N = true) (hd : decode cc pc = .ok (.laload, 1)) (kk : G p l e R s m args below meth c D E A nL Q (mx M a, ρ) ex cells slots (pc + 1) lv (.long (lgA a j n.toNatClampNeg) :: rest)) : G p l e R s m args below meth c D E A nL Q (mx M a, ρ) ex cells slots pc lv (.int n :: .ref q :: rest) := fun H locs ls hw hs hl => by
  have kk' : G p l e R s m args below meth c D E A nL Q (mx M a, ρ) ex cells slots (pc + 1) lv (.long (mkL (mx M a (40 + j) 0 (2 * n.toNatClampNeg)) (mx M a (40 + j) 0 (2 * n.toNatClampNeg + 1))) :: rest) := by rw [mx_at M a (lnB_k hm).2]; exact kk
  exact va_lald C.1 C.2.1 C.2.2.2.2.2.2.1 (wld_one hw (k := 40 + j) (i := 0) (lvL hρ hm) hq (by omega) (by omega)) 0 4 (cA := E 4) (n := ρ.1 (40 + j) 0) (f := fun i => mkL (mx M a (40 + j) 0 (2 * i)) (mx M a (40 + j) 0 (2 * i + 1))) (by rw [ct_la (lnB_k hm).1]; rfl) rfl (by rw [lenL hρ hm]; exact ixB_in hin) hd (kk' H locs ls hw hs hl)
theorem stL2 (cA : ClassId) (n j : Nat) (f : Nat → Int32) (x : Int64) : (vp_cell cA (n, .inr (.inl (fun q => mkL (f (2 * q)) (f (2 * q + 1)))))).setSlot j (.long x) = vp_cell cA (n, .inr (.inl (fun q => mkL (up1 (up1 f (2 * j) (loL x)) (2 * j + 1) (hiL x) (2 * q)) (up1 (up1 f (2 * j) (loL x)) (2 * j + 1) (hiL x) (2 * q + 1))))) := by
  rw [vp_cell_l, vp_cell_l, arrV_store]
  congr 2
  funext q
  by_cases hq : q = j
  · subst hq
    rw [up1_n _ _ (by omega), up1_s, up1_s, mkL_of]
    simp [updV]
  · rw [up1_n _ _ (by omega), up1_n _ _ (by omega), up1_n _ _ (by omega), up1_n _ _ (by omega)]
    simp [updV, hq]
theorem q_last (C : cx p s m args meth c D E A cc nL own) (hρ : rsh ρ) {j N q : Nat} {n : Int32} {x : Int64} (hm : lnB j N = true) (hq : ρ.2.2.2 (40 + j) 0 = q) (hin : ixB n N = true) (hd : decode cc pc = .ok (.lastore, 1)) (kk : ∀ a' : AS, wLg a j n.toNatClampNeg x = a' → G p l e R s m args below meth c D E A nL Q (mx M a', ρ) ex cells slots (pc + 1) lv rest) : G p l e R s m args below meth c D E A nL Q (mx M a, ρ) ex cells slots pc lv (.long x :: .int n :: .ref q :: rest) := fun H locs ls hw hs hl => by
  subst hq
  have hlv : live (mx M a, ρ) (40 + j) 0 := lvL hρ hm
  have hk5 := (lnB_k hm).1
  have hat := (hw.1 (40 + j) 0 hlv).1.to (by omega) (by omega)
  rw [ct_la hk5] at hat
  refine W.last C.1 C.2.1 (show H[ρ.2.2.2 (40 + j) 0]? = some (vp_cell (E 4) (ρ.1 (40 + j) 0, .inr (.inl (fun i => mkL (mx M a (40 + j) 0 (2 * i)) (mx M a (40 + j) 0 (2 * i + 1)))))) from hat) ((C.2.2.2.2.2.2.1.2 4 _ rfl).1 _ (fun i => .long (mkL (mx M a (40 + j) 0 (2 * i)) (mx M a (40 + j) 0 (2 * i + 1))))) (fun q => by cases q) (by show ¬ (n < 0 ∨ (arrV _ _ _).slots.size ≤ _); rw [arrV_size]; show ¬ (n < 0 ∨ ρ.1 (40 + j) 0 ≤ _); rw [lenL hρ hm]; exact ixB_in hin) rfl rfl hd fun H1 e z oq => ?_
  have hup := mx_wLg M a n.toNatClampNeg x (lnB_k hm).2
  refine kk _ rfl H1 _ ls (wld_cell (σ' := (mx M (wLg a j n.toNatClampNeg x), ρ)) hw hlv rfl rfl (fun k' i' h => ⟨?_, rfl⟩) ?_ oq) (hs.put z oq ((hw.1 (40 + j) 0 hlv).2 (by omega) (by omega))) hl
  · show mx M (wLg a j n.toNatClampNeg x) k' i' = mx M a k' i'
    rw [← hup, up3_n _ _ h, up3_n _ _ h]
  · rw [ct_la hk5]
    show H1[ρ.2.2.2 (40 + j) 0]? = some (vp_cell (E 4) (ρ.1 (40 + j) 0, .inr (.inl (fun i => mkL (mx M (wLg a j n.toNatClampNeg x) (40 + j) 0 (2 * i)) (mx M (wLg a j n.toNatClampNeg x) (40 + j) 0 (2 * i + 1))))))
    rw [e, ← hup, up3_s, up3_s]
    exact congrArg some (stL2 _ _ _ _ _)
theorem g_tswI (C : cx p s m args meth c D E A cc nL own) {dflt lo hi : Int} {offs : Array Int} {len : Nat} {x v : Int32} {off : Int} {tgt : Nat} (hd : decode cc pc = .ok (.tableswitch dflt lo hi offs, len)) (hx : x = v) (h : (¬ v.toInt < lo) ∧ ¬ hi < v.toInt) (ho : offs[(v.toInt - lo).toNat]? = some off) (ht : (pc : Int) + off = (tgt : Int)) (kk : G p l e R s m args below meth c D E A nL Q σ ex cells slots (tgt) lv (rest)) : G p l e R s m args below meth c D E A nL Q σ ex cells slots (pc) lv (.int x :: rest) := fun H locs ls hw hs hl => by
  subst hx
  exact lv_tableIn C.1 C.2.1 hd h.1 h.2 ho ht (kk H locs ls hw hs hl)
theorem g_tswO (C : cx p s m args meth c D E A cc nL own) {dflt lo hi : Int} {offs : Array Int} {len : Nat} {x : Int32} {tgt : Nat} (hd : decode cc pc = .ok (.tableswitch dflt lo hi offs, len)) (h : x.toInt < lo ∨ hi < x.toInt) (ht : (pc : Int) + dflt = (tgt : Int)) (kk : G p l e R s m args below meth c D E A nL Q σ ex cells slots (tgt) lv (rest)) : G p l e R s m args below meth c D E A nL Q σ ex cells slots (pc) lv (.int x :: rest) := fun H locs ls hw hs hl =>
  lv_tableOut C.1 C.2.1 hd h ht (kk H locs ls hw hs hl)

theorem g_ladd (C : cx p s m args meth c D E A cc nL own) {x y : Int64} (hd : decode cc pc = .ok (.ladd, 1)) (k : G p l e R s m args below meth c D E A nL Q σ ex cells slots (pc + 1) lv (.long (x + y) :: rest)) : G p l e R s m args below meth c D E A nL Q σ ex cells slots (pc) lv (.long y :: .long x :: rest) := fun H locs ls hw hs hl => lv_ladd C.1 C.2.1 hd (k H locs ls hw hs hl)
theorem g_lsub (C : cx p s m args meth c D E A cc nL own) {x y : Int64} (hd : decode cc pc = .ok (.lsub, 1)) (k : G p l e R s m args below meth c D E A nL Q σ ex cells slots (pc + 1) lv (.long (x - y) :: rest)) : G p l e R s m args below meth c D E A nL Q σ ex cells slots (pc) lv (.long y :: .long x :: rest) := fun H locs ls hw hs hl => lv_lsub C.1 C.2.1 hd (k H locs ls hw hs hl)
theorem g_lmul (C : cx p s m args meth c D E A cc nL own) {x y : Int64} (hd : decode cc pc = .ok (.lmul, 1)) (k : G p l e R s m args below meth c D E A nL Q σ ex cells slots (pc + 1) lv (.long (x * y) :: rest)) : G p l e R s m args below meth c D E A nL Q σ ex cells slots (pc) lv (.long y :: .long x :: rest) := fun H locs ls hw hs hl => lv_lmul C.1 C.2.1 hd (k H locs ls hw hs hl)
theorem g_land (C : cx p s m args meth c D E A cc nL own) {x y : Int64} (hd : decode cc pc = .ok (.land, 1)) (k : G p l e R s m args below meth c D E A nL Q σ ex cells slots (pc + 1) lv (.long (x &&& y) :: rest)) : G p l e R s m args below meth c D E A nL Q σ ex cells slots (pc) lv (.long y :: .long x :: rest) := fun H locs ls hw hs hl => lv_land C.1 C.2.1 hd (k H locs ls hw hs hl)
theorem g_lor (C : cx p s m args meth c D E A cc nL own) {x y : Int64} (hd : decode cc pc = .ok (.lor, 1)) (k : G p l e R s m args below meth c D E A nL Q σ ex cells slots (pc + 1) lv (.long (x ||| y) :: rest)) : G p l e R s m args below meth c D E A nL Q σ ex cells slots (pc) lv (.long y :: .long x :: rest) := fun H locs ls hw hs hl => lv_lor C.1 C.2.1 hd (k H locs ls hw hs hl)
theorem g_lxor (C : cx p s m args meth c D E A cc nL own) {x y : Int64} (hd : decode cc pc = .ok (.lxor, 1)) (k : G p l e R s m args below meth c D E A nL Q σ ex cells slots (pc + 1) lv (.long (x ^^^ y) :: rest)) : G p l e R s m args below meth c D E A nL Q σ ex cells slots (pc) lv (.long y :: .long x :: rest) := fun H locs ls hw hs hl => lv_lxor C.1 C.2.1 hd (k H locs ls hw hs hl)
theorem g_lshl (C : cx p s m args meth c D E A cc nL own) {x : Int64} {y : Int32} (hd : decode cc pc = .ok (.lshl, 1)) (k : G p l e R s m args below meth c D E A nL Q σ ex cells slots (pc + 1) lv (.long (x <<< (y.toInt64 &&& 63)) :: rest)) : G p l e R s m args below meth c D E A nL Q σ ex cells slots (pc) lv (.int y :: .long x :: rest) := fun H locs ls hw hs hl => lv_lshl C.1 C.2.1 hd rfl (k H locs ls hw hs hl)
theorem g_lshr (C : cx p s m args meth c D E A cc nL own) {x : Int64} {y : Int32} (hd : decode cc pc = .ok (.lshr, 1)) (k : G p l e R s m args below meth c D E A nL Q σ ex cells slots (pc + 1) lv (.long (x >>> (y.toInt64 &&& 63)) :: rest)) : G p l e R s m args below meth c D E A nL Q σ ex cells slots (pc) lv (.int y :: .long x :: rest) := fun H locs ls hw hs hl => lv_lshr C.1 C.2.1 hd rfl (k H locs ls hw hs hl)
theorem g_iushr (C : cx p s m args meth c D E A cc nL own) {x y : Int32} (hd : decode cc pc = .ok (.iushr, 1)) (k : G p l e R s m args below meth c D E A nL Q σ ex cells slots (pc + 1) lv (.int ((x.toUInt32 >>> (y.toUInt32 &&& Int32.toUInt32 31)).toInt32) :: rest)) : G p l e R s m args below meth c D E A nL Q σ ex cells slots (pc) lv (.int y :: .int x :: rest) := fun H locs ls hw hs hl => lv_iushr C.1 C.2.1 hd rfl (k H locs ls hw hs hl)
theorem g_l2i (C : cx p s m args meth c D E A cc nL own) {x : Int64} (hd : decode cc pc = .ok (.l2i, 1)) (k : G p l e R s m args below meth c D E A nL Q σ ex cells slots (pc + 1) lv (.int (x.toInt32) :: rest)) : G p l e R s m args below meth c D E A nL Q σ ex cells slots (pc) lv (.long x :: rest) := fun H locs ls hw hs hl => lv_l2i C.1 C.2.1 hd rfl (k H locs ls hw hs hl)
theorem g_lconst (C : cx p s m args meth c D E A cc nL own) {k2 : Fin 2} {v : Int64} (hd : decode cc pc = .ok (.lconst k2, 1)) (hv : Int64.ofNat (k2 : Nat) = v) (k : G p l e R s m args below meth c D E A nL Q σ ex cells slots (pc + 1) lv (.long v :: rest)) : G p l e R s m args below meth c D E A nL Q σ ex cells slots (pc) lv (rest) := fun H locs ls hw hs hl => lv_lconst C.1 C.2.1 hd hv (k H locs ls hw hs hl)
theorem g_ldc2 (C : cx p s m args meth c D E A cc nL own) {index : Nat} {v : Int64} (hk : Cond.constantLong own index v ∈ GT) (hd : decode cc pc = .ok (.ldc2_w index, 3)) (k : G p l e R s m args below meth c D E A nL Q σ ex cells slots (pc + 3) lv (.long v :: rest)) : G p l e R s m args below meth c D E A nL Q σ ex cells slots (pc) lv (rest) := fun H locs ls hw hs hl => lv_ldc2 C.1 C.2.1 C.2.2.1 (C.2.2.2.1 _ hk) hd (k H locs ls hw hs hl)
theorem g_lload_n (C : cx p s m args meth c D E A cc nL own) {kk : Fin 4} {i : Nat} {x : Int64} (hd : decode cc pc = .ok (.lload_n kk, 1)) (hi : (kk : Nat) = i) (n : Nat) (hg : lv[n]? = some (i, .long x)) (k : G p l e R s m args below meth c D E A nL Q σ ex cells slots (pc + 1) lv (.long x :: rest)) : G p l e R s m args below meth c D E A nL Q σ ex cells slots (pc) lv (rest) := fun H locs ls hw hs hl => lv_lload_n C.1 C.2.1 hd hi (lv_at hl n hg) (k H locs ls hw hs hl)
theorem g_lload (C : cx p s m args meth c D E A cc nL own) {i : Nat} {x : Int64} (hd : decode cc pc = .ok (.lload i, 2)) (n : Nat) (hg : lv[n]? = some (i, .long x)) (k : G p l e R s m args below meth c D E A nL Q σ ex cells slots (pc + 2) lv (.long x :: rest)) : G p l e R s m args below meth c D E A nL Q σ ex cells slots (pc) lv (rest) := fun H locs ls hw hs hl => lv_lload C.1 C.2.1 hd (lv_at hl n hg) (k H locs ls hw hs hl)
theorem g_lstore (C : cx p s m args meth c D E A cc nL own) {i : Nat} {x : Int64} {lv' : List (Nat × Value)} (hd : decode cc pc = .ok (.lstore i, 2)) (hn : i + 1 < nL) (hf : (i, Value.long x) :: lv.filter (fun q => !(q.1 == i) && (!(q.1 == i + 1) && !(q.1 + 1 == i && q.2.category == 2))) = lv') (k : G p l e R s m args below meth c D E A nL Q σ ex cells slots (pc + 2) lv' (rest)) : G p l e R s m args below meth c D E A nL Q σ ex cells slots (pc) lv (.long x :: rest) := fun H locs ls hw hs hl => lv_lstore C.1 C.2.1 hd hl hn hf (fun ls' hl' => k H locs ls' hw hs hl')
theorem g_lcmp (C : cx p s m args meth c D E A cc nL own) {x y : Int64} (hd : decode cc pc = .ok (.lcmp, 1)) (k : G p l e R s m args below meth c D E A nL Q σ ex cells slots (pc + 1) lv (.int (lcv x y) :: rest)) : G p l e R s m args below meth c D E A nL Q σ ex cells slots (pc) lv (.long y :: .long x :: rest) := fun H locs ls hw hs hl => by
  obtain ⟨hexec, hb, -⟩ := C
  intro T hT X
  obtain ⟨t, a1, b1⟩ := k H locs ls hw hs hl T hT X
  refine ⟨t, ?_, b1⟩
  unfold lcv at a1
  by_cases h1 : y < x
  · rw [if_pos h1] at a1
    jvm_step X.here [X.here.top, hexec, hb, hd, h1]
    exact a1
  · rw [if_neg h1] at a1
    by_cases h2 : x = y
    · rw [if_pos h2] at a1
      subst h2
      jvm_step X.here [X.here.top, hexec, hb, hd, h1]
      exact a1
    · rw [if_neg h2] at a1
      jvm_step X.here [X.here.top, hexec, hb, hd, h1, h2]
      exact a1
end RefG
