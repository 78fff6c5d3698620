/-! THE CLASS: what its methods write is one pair (ints, element indexes); lengths and counts are another. -/
abbrev MP : Type := (Nat → Nat → Nat → Int32) × (Nat → Nat → Nat → Nat)
abbrev NC : Type := (Nat → Nat → Nat) × (Nat → Nat)
/-- all registers: the class's, the reference's, the addresses -/
abbrev zS (μ : MP) (ν : NC) (a : AS) (A : Nat → Nat → Nat) : RS := (mx μ.1 a, ν.1, μ.2, ν.2, A)
/-- a reference: none, or a place plus one -/
def nv (f : Nat → Nat) : Nat → Value
  | 0 => .null
  | p + 1 => .ref (f p)
theorem cat_i (x : Int32) : (Value.int x).category = 1 := rfl
theorem cat_r (x : Nat) : (Value.ref x).category = 1 := rfl
theorem cat_n : (Value.null).category = 1 := rfl
def uM (μ : MP) (k i j : Nat) (v : Int32) : MP := (up3 μ.1 k i j v, μ.2)
def uP (μ : MP) (k i j : Nat) (v : Nat) : MP := (μ.1, up3 μ.2 k i j v)
def ltB (i n : Nat) : Bool := decide (i < n)
def nzB (p : Nat) : Bool := !decide (p = 0)
def eqB (a b : Nat) : Bool := decide (a = b)
theorem nzB_e {f : Nat → Nat} {p : Nat} (h : nzB p = true) : nv f p = .ref (f (p - 1)) := by
  cases p with
  | zero => exact absurd h (by decide)
  | succ p => rfl
theorem nv_z {f : Nat → Nat} {p : Nat} (h : p = 0) : nv f p = .null := by subst h; rfl
theorem nv_n {f : Nat → Nat} {p : Nat} (h : ¬ p = 0) : nv f p = .ref (f (p - 1)) := by
  cases p with
  | zero => exact absurd rfl h
  | succ p => rfl
theorem nv_or (f : Nat → Nat) (p : Nat) : nv f p = .null ∨ ∃ a, nv f p = .ref a := by
  cases p with
  | zero => exact Or.inl rfl
  | succ p => exact Or.inr ⟨_, rfl⟩
theorem lvZ {μ : MP} {ν : NC} {a : AS} {A : Nat → Nat → Nat} {k i : Nat} (h : ltB i (ν.2 k) = true) (hk : Nat.beq k 5 = false) : live (zS μ ν a A) k i := ⟨of_decide_eq_true h, fun e => by subst e; exact absurd hk (by decide)⟩
theorem mx_lo (M : Nat → Nat → Nat → Int32) (a : AS) {k i : Nat} (h : Nat.ble k 39 = true) : mx M a k i = M k i := by
  unfold mx
  rw [show Nat.ble 40 k = false from by
    cases hb : Nat.ble 40 k with
    | false => rfl
    | true => exact absurd (Nat.le_of_ble_eq_true hb) (by have := Nat.le_of_ble_eq_true h; omega)]
  rfl
theorem mx_cl (M : Nat → Nat → Nat → Int32) (a : AS) {k : Nat} (i j : Nat) (x : Int32) (h : Nat.ble k 39 = true) : up3 (mx M a) k i j x = mx (up3 M k i j x) a := by
  have h1 := Nat.le_of_ble_eq_true h
  funext k' i'
  by_cases hc : k' = k ∧ i' = i
  · obtain ⟨rfl, rfl⟩ := hc
    rw [up3_s, mx_lo M a h, mx_lo _ a h, up3_s]
  · rw [up3_n _ _ hc]
    unfold mx
    cases hb : (Nat.ble 40 k' && Nat.ble k' 89 && Nat.beq i' 0) with
    | true => rfl
    | false =>
      show M k' i' = up3 M k i j x k' i'
      rw [up3_n _ _ hc]
theorem eqB_e {a b : Nat} (h : eqB a b = true) : a = b := of_decide_eq_true h
section ZG
variable {p : Program} {l : Launch} {e : Env} {R : Room} {s : State} {m : MethodId} {args : Array Value} {below : List Frame} {meth : Method} {c : Code} {D : va_G} {E : Nat → ClassId} {A : Nat → Prop} {cc : ByteArray} {nL : Nat} {own : String} {Q : State → Prop}
variable {μ : MP} {ν : NC} {a : AS} {Ad : Nat → Nat → Nat} {σ : RS} {ex : va_W} {cells slots pc : Nat} {lv : List (Nat × Value)} {rest : List Value}
theorem z_iald (C : cx p s m args meth c D E A cc nL own) {k i : Nat} {n : Int32} (hk : Nat.ble k 39 = true) (hl : ltB i (ν.2 k) = true) (h5 : Nat.beq k 5 = false) (hkn : knd k = 1) (hin : ixB n (ν.1 k i) = true) (hd : decode cc pc = .ok (.iaload, 1)) (kk : G p l e R s m args below meth c D E A nL Q (zS μ ν a Ad) ex cells slots (pc + 1) lv (.int (μ.1 k i n.toNatClampNeg) :: rest)) (h30 : k ≠ 30 := by decide) : G p l e R s m args below meth c D E A nL Q (zS μ ν a Ad) ex cells slots (pc) lv (.int n :: .ref (Ad k i) :: rest) :=
  g_iald (k := k) (i := i) C rfl (lvZ hl h5) hkn (ixB_in hin) hd (by show G p l e R s m args below meth c D E A nL Q (zS μ ν a Ad) ex cells slots (pc + 1) lv (.int (mx μ.1 a k i n.toNatClampNeg) :: rest); rw [mx_lo _ _ hk]; exact kk) h30
theorem z_zald (C : cx p s m args meth c D E A cc nL own) {k i : Nat} {n : Int32} (hk : Nat.ble k 39 = true) (hl : ltB i (ν.2 k) = true) (h5 : Nat.beq k 5 = false) (hkn : knd k = 2) (hin : ixB n (ν.1 k i) = true) (hd : decode cc pc = .ok (.baload, 1)) (kk : G p l e R s m args below meth c D E A nL Q (zS μ ν a Ad) ex cells slots (pc + 1) lv (.int (μ.1 k i n.toNatClampNeg) :: rest)) : G p l e R s m args below meth c D E A nL Q (zS μ ν a Ad) ex cells slots (pc) lv (.int n :: .ref (Ad k i) :: rest) :=
  g_zald (k := k) (i := i) C rfl (lvZ hl h5) hkn (ixB_in hin) hd (by show G p l e R s m args below meth c D E A nL Q (zS μ ν a Ad) ex cells slots (pc + 1) lv (.int (mx μ.1 a k i n.toNatClampNeg) :: rest); rw [mx_lo _ _ hk]; exact kk)
theorem z_iast (C : cx p s m args meth c D E A cc nL own) {k i : Nat} {n x : Int32} (hk : Nat.ble k 29 = true) (hl : ltB i (ν.2 k) = true) (h5 : Nat.beq k 5 = false) (hkn : knd k = 1) (hin : ixB n (ν.1 k i) = true) (hd : decode cc pc = .ok (.iastore, 1)) (kk : ∀ μ' : MP, uM μ k i n.toNatClampNeg x = μ' → G p l e R s m args below meth c D E A nL Q (zS μ' ν a Ad) ex cells slots (pc + 1) lv (rest)) : G p l e R s m args below meth c D E A nL Q (zS μ ν a Ad) ex cells slots (pc) lv (.int x :: .int n :: .ref (Ad k i) :: rest) :=
  have h1 := Nat.le_of_ble_eq_true hk
  g_iast (k := k) (i := i) C rfl (lvZ hl h5) ⟨by omega, by omega⟩ hkn (ixB_in hin) hd (by show G p l e R s m args below meth c D E A nL Q (up3 (mx μ.1 a) k i n.toNatClampNeg x, ν.1, μ.2, ν.2, Ad) ex cells slots (pc + 1) lv rest; rw [mx_cl _ _ _ _ _ (Nat.ble_eq_true_of_le (by omega))]; exact kk _ rfl)
theorem z_zast (C : cx p s m args meth c D E A cc nL own) {k i : Nat} {n x : Int32} (hk : Nat.ble k 29 = true) (hl : ltB i (ν.2 k) = true) (h5 : Nat.beq k 5 = false) (hkn : knd k = 2) (hin : ixB n (ν.1 k i) = true) (hd : decode cc pc = .ok (.bastore, 1)) (kk : ∀ μ' : MP, uM μ k i n.toNatClampNeg (vp_nar .boolean x) = μ' → G p l e R s m args below meth c D E A nL Q (zS μ' ν a Ad) ex cells slots (pc + 1) lv (rest)) : G p l e R s m args below meth c D E A nL Q (zS μ ν a Ad) ex cells slots (pc) lv (.int x :: .int n :: .ref (Ad k i) :: rest) :=
  have h1 := Nat.le_of_ble_eq_true hk
  g_zast (k := k) (i := i) C rfl (lvZ hl h5) ⟨by omega, by omega⟩ hkn (ixB_in hin) hd (by show G p l e R s m args below meth c D E A nL Q (up3 (mx μ.1 a) k i n.toNatClampNeg (vp_nar .boolean x), ν.1, μ.2, ν.2, Ad) ex cells slots (pc + 1) lv rest; rw [mx_cl _ _ _ _ _ (Nat.ble_eq_true_of_le (by omega))]; exact kk _ rfl)
/-- an int field is written -/
theorem z_put (C : cx p s m args meth c D E A cc nL own) {k i : Nat} {index : Nat} {ref Cn : String} {T : u_T} {N : Nat} (hk : Nat.ble k 39 = true) (hl : ltB i (ν.2 k) = true) (h5 : Nat.beq k 5 = false) (hkn : knd k = 0) (hci : vwCl[cK k]? = some (Cn, T, N)) (hin : ∀ w ∈ u_ws Cn T N, w ∈ GT) (ty0 : Nat → FieldType) (hty : ∀ k, k < N → parseFieldDescriptor (T k).2.2.1 = some (ty0 k)) (hnm : ∀ a, a < N → ∀ b, b < N → a ≠ b → (T a).2.1 ≠ (T b).2.1) (j : Nat) (hj : j < N) (hlink : Cond.fieldLink own index ref (T j).2.1 (T j).2.2.1 ∈ GT) (hsame : ∀ x, s.fieldFound? (T j).1 (T j).2.1 (T j).2.2.1 = some x → s.fieldFound? ref (T j).2.1 (T j).2.2.1 = some x) (hfin : (T j).2.2.2 = false) {ty : FieldType} {x : Int32} (hde : parseFieldDescriptor (T j).2.2.1 = some ty) (hn : narrow ty (.int x) = .int x) (hfit : fits ty (.int x) = true) (hlen : j < (fvs (mx μ.1 a k i) ν.1 (μ.2 k i) Ad k i).length) (hset : fvs (up1 (mx μ.1 a k i) j x) ν.1 (μ.2 k i) Ad k i = (fvs (mx μ.1 a k i) ν.1 (μ.2 k i) Ad k i).set j (.int x)) (hd : decode cc pc = .ok (.putfield index, 3)) (kk : ∀ μ' : MP, uM μ k i j x = μ' → G p l e R s m args below meth c D E A nL Q (zS μ' ν a Ad) ex cells slots (pc + 3) lv (rest)) : G p l e R s m args below meth c D E A nL Q (zS μ ν a Ad) ex cells slots (pc) lv (.int x :: .ref (Ad k i) :: rest) :=
  g_put (k := k) (i := i) (ref := ref) C rfl (lvZ hl h5) hkn hci hin ty0 hty hnm j hj hlink hsame hfin hde hn hfit hlen hset hd (by show G p l e R s m args below meth c D E A nL Q (up3 (mx μ.1 a) k i j x, ν.1, μ.2, ν.2, Ad) ex cells slots (pc + 3) lv rest; rw [mx_cl _ _ _ _ _ hk]; exact kk _ rfl)
theorem z_aald (C : cx p s m args meth c D E A cc nL own) {i : Nat} {n : Int32} (hl : ltB i (ν.2 24) = true) (hin : ixB n (ν.1 24 i) = true) (hnz : nzB (μ.2 24 i n.toNatClampNeg) = true) (hd : decode cc pc = .ok (.aaload, 1)) (kk : G p l e R s m args below meth c D E A nL Q (zS μ ν a Ad) ex cells slots (pc + 1) lv (.ref (Ad 25 (μ.2 24 i n.toNatClampNeg - 1)) :: rest)) : G p l e R s m args below meth c D E A nL Q (zS μ ν a Ad) ex cells slots (pc) lv (.int n :: .ref (Ad 24 i) :: rest) :=
  g_aald (k := 24) (i := i) (v := μ.2 24 i n.toNatClampNeg - 1) C 3 (Or.inr rfl) rfl (lvZ hl rfl) rfl (ixB_in hin) (by have h := hnz; unfold nzB at h; simp only [Bool.not_eq_true', decide_eq_false_iff_not] at h; show μ.2 24 i n.toNatClampNeg = _; omega) hd kk
theorem z_ifnull (C : cx p s m args meth c D E A cc nL own) {x : Nat} {off : Int} (hd : decode cc pc = .ok (.ifnull off, 3)) (k : G p l e R s m args below meth c D E A nL Q σ ex cells slots (pc + 3) lv (rest)) : G p l e R s m args below meth c D E A nL Q σ ex cells slots (pc) lv (.ref x :: rest) := fun H locs ls hw hs hl => lv_ifnull C.1 C.2.1 hd (k H locs ls hw hs hl)
theorem z_ifnonnull (C : cx p s m args meth c D E A cc nL own) {x : Nat} {off : Int} {tgt : Nat} (hd : decode cc pc = .ok (.ifnonnull off, 3)) (ht : (pc : Int) + off = (tgt : Int)) (k : G p l e R s m args below meth c D E A nL Q σ ex cells slots (tgt) lv (rest)) : G p l e R s m args below meth c D E A nL Q σ ex cells slots (pc) lv (.ref x :: rest) := fun H locs ls hw hs hl => lv_ifnonnull C.1 C.2.1 hd ht (k H locs ls hw hs hl)
theorem z_ifnullN (C : cx p s m args meth c D E A cc nL own) {off : Int} {tgt : Nat} (hd : decode cc pc = .ok (.ifnull off, 3)) (ht : (pc : Int) + off = (tgt : Int)) (k : G p l e R s m args below meth c D E A nL Q σ ex cells slots (tgt) lv (rest)) : G p l e R s m args below meth c D E A nL Q σ ex cells slots (pc) lv (.null :: rest) := fun H locs ls hw hs hl => lv_ifnullN C.1 C.2.1 hd ht (k H locs ls hw hs hl)
theorem z_ifnonnullN (C : cx p s m args meth c D E A cc nL own) {off : Int} (hd : decode cc pc = .ok (.ifnonnull off, 3)) (k : G p l e R s m args below meth c D E A nL Q σ ex cells slots (pc + 3) lv (rest)) : G p l e R s m args below meth c D E A nL Q σ ex cells slots (pc) lv (.null :: rest) := fun H locs ls hw hs hl => lv_ifnonnullN C.1 C.2.1 hd (k H locs ls hw hs hl)
theorem nv_cat (f : Nat → Nat) (p : Nat) : (nv f p).category = 1 := by cases p <;> rfl
theorem z_aload_n (C : cx p s m args meth c D E A cc nL own) {kk : Fin 4} {i : Nat} {v : Value} (hd : decode cc pc = .ok (.aload_n kk, 1)) (hi : (kk : Nat) = i) (n : Nat) (hg : lv[n]? = some (i, v)) (hv : v = .null ∨ ∃ a, v = .ref a) (k : G p l e R s m args below meth c D E A nL Q σ ex cells slots (pc + 1) lv (v :: rest)) : G p l e R s m args below meth c D E A nL Q σ ex cells slots (pc) lv (rest) := fun H locs ls hw hs hl => by
  rcases hv with rfl | ⟨x, rfl⟩
  · exact lv_aload_nN C.1 C.2.1 hd hi (lv_at hl n hg) (k H locs ls hw hs hl)
  · exact lv_aload_n C.1 C.2.1 hd hi (lv_at hl n hg) (k H locs ls hw hs hl)
theorem z_aload (C : cx p s m args meth c D E A cc nL own) {i : Nat} {v : Value} (hd : decode cc pc = .ok (.aload i, 2)) (n : Nat) (hg : lv[n]? = some (i, v)) (hv : v = .null ∨ ∃ a, v = .ref a) (k : G p l e R s m args below meth c D E A nL Q σ ex cells slots (pc + 2) lv (v :: rest)) : G p l e R s m args below meth c D E A nL Q σ ex cells slots (pc) lv (rest) := fun H locs ls hw hs hl => by
  rcases hv with rfl | ⟨x, rfl⟩
  · exact lv_aloadN C.1 C.2.1 hd (lv_at hl n hg) (k H locs ls hw hs hl)
  · exact lv_aload C.1 C.2.1 hd (lv_at hl n hg) (k H locs ls hw hs hl)
theorem z_astore_n (C : cx p s m args meth c D E A cc nL own) {kk : Fin 4} {i : Nat} {v : Value} {lv' : List (Nat × Value)} (hd : decode cc pc = .ok (.astore_n kk, 1)) (hv : v = .null ∨ ∃ a, v = .ref a) (hi : (kk : Nat) = i) (hn : i < nL) (hf : (i, v) :: lv.filter (fun q => !(q.1 == i) && !(q.1 + 1 == i && q.2.category == 2)) = lv') (k : G p l e R s m args below meth c D E A nL Q σ ex cells slots (pc + 1) lv' (rest)) : G p l e R s m args below meth c D E A nL Q σ ex cells slots (pc) lv (v :: rest) := fun H locs ls hw hs hl => by
  rcases hv with rfl | ⟨x, rfl⟩
  · exact lv_astore_nN C.1 C.2.1 hd hi hl hn hf (fun ls' hl' => k H locs ls' hw hs hl')
  · exact lv_astore_n C.1 C.2.1 hd hi hl hn hf (fun ls' hl' => k H locs ls' hw hs hl')
theorem z_astore (C : cx p s m args meth c D E A cc nL own) {i : Nat} {v : Value} {lv' : List (Nat × Value)} (hd : decode cc pc = .ok (.astore i, 2)) (hv : v = .null ∨ ∃ a, v = .ref a) (hn : i < nL) (hf : (i, v) :: lv.filter (fun q => !(q.1 == i) && !(q.1 + 1 == i && q.2.category == 2)) = lv') (k : G p l e R s m args below meth c D E A nL Q σ ex cells slots (pc + 2) lv' (rest)) : G p l e R s m args below meth c D E A nL Q σ ex cells slots (pc) lv (v :: rest) := fun H locs ls hw hs hl => by
  rcases hv with rfl | ⟨x, rfl⟩
  · exact lv_astoreN C.1 C.2.1 hd hl hn hf (fun ls' hl' => k H locs ls' hw hs hl')
  · exact lv_astore C.1 C.2.1 hd hl hn hf (fun ls' hl' => k H locs ls' hw hs hl')
/-- two live things of a kind: the same address, the same place -/
theorem z_acmp_ne (C : cx p s m args meth c D E A cc nL own) {k i j : Nat} {off : Int} {tgt : Nat} (h1 : live σ k i) (h2 : live σ k j) (hd : decode cc pc = .ok (.if_acmp .ne off, 3)) (ht : (pc : Int) + off = (tgt : Int)) (kt : ¬ i = j → G p l e R s m args below meth c D E A nL Q σ ex cells slots (tgt) lv (rest)) (kf : i = j → G p l e R s m args below meth c D E A nL Q σ ex cells slots (pc + 3) lv (rest)) : G p l e R s m args below meth c D E A nL Q σ ex cells slots (pc) lv (.ref (rA σ k j) :: .ref (rA σ k i) :: rest) := fun H locs ls hw hs hl =>
  g_acmp_ne C hd ht (fun h => kt (fun e => h (by rw [e]))) (fun h => kf (hw.2.1 _ _ _ _ h1 h2 h).2) H locs ls hw hs hl
/-- a cast of a thing to its own class -/
theorem z_cast (C : cx p s m args meth c D E A cc nL own) {k i index : Nat} {Cn : String} {T : u_T} {N : Nat} (hl : live σ k i) (hkn : knd k = 0) (hci : vwCl[cK k]? = some (Cn, T, N)) (hlink : Cond.classLink own index Cn ∈ GT) (hd : decode cc pc = .ok (.checkcast index, 3)) (kk : G p l e R s m args below meth c D E A nL Q σ ex cells slots (pc + 3) lv (.ref (rA σ k i) :: rest)) : G p l e R s m args below meth c D E A nL Q σ ex cells slots (pc) lv (.ref (rA σ k i) :: rest) := fun H locs ls hw hs hl2 =>
  va_castS C.1 C.2.1 C.2.2.1 (C.2.2.2.1 _ hlink) (C.2.2.2.2.2.2.1.1 _ _ hci).2 (rcv_at hw C.2.2.2.2.2.2.1 (rcvT hl rfl hkn hci)) hd (kk H locs ls hw hs hl2)
end ZG

/-! lists -/
theorem nI_self {x : Int32} (h : ¬ x < 0) : x = nI x.toNatClampNeg := by
  obtain ⟨j, hj, rfl⟩ := nI_of h
  rw [nI_clamp hj]
def ls_ok (μ : MP) (ν : NC) (i : Nat) : Bool := decide (i < ν.2 4) && decide (i < ν.2 5) && !decide (μ.1 4 i 2 < 0) && decide ((μ.1 4 i 2).toNatClampNeg ≤ ν.1 5 i) && decide (ν.1 5 i ≤ 2097152)
def ls_get (μ : MP) (ν : NC) (i : Nat) (x : Int32) : Option Nat := bif ls_ok μ ν i && !decide (x < 0) && decide (x < μ.1 4 i 2) && nzB (μ.2 5 i x.toNatClampNeg) && ltB (μ.2 5 i x.toNatClampNeg - 1) (ν.2 (eK 5 i)) then some (μ.2 5 i x.toNatClampNeg - 1) else none
def ls_clear (μ : MP) (ν : NC) (i : Nat) : Option (MP × Int32) := bif ls_ok μ ν i then some ((up3 (up3 μ.1 4 i 0 (μ.1 4 i 0 + 1)) 4 i 2 0, up2 μ.2 5 i (cl0 (μ.2 5 i) (μ.1 4 i 2).toNatClampNeg)), 0) else none
theorem c_Jx4a65c_size_8abf5 (l : Launch) (μ : MP) (ν : NC) (a : AS) (Ad : Nat → Nat → Nat) (i : Nat) (h : ltB i (ν.2 4) = true) : ∀ D E sz, Met l yJx4a65c_size_8abf5 gwJx4a65c_size_8abf5 ({ frames := 0, cells := 0, slots := 0, locals := 0 } : Room) (cP D E sz (zS μ ν a Ad) [] [.ref (Ad 4 i)]) (cQ D E sz (zS μ ν a Ad) [] (pI (fun r u => r = μ.1 4 i 2 ∧ u = (zS μ ν a Ad, [])))) (0) (0) (Aof (zS μ ν a Ad) [] sz) :=
  k_Jx4a65c_size_8abf5 l (zS μ ν a Ad) i (lvZ h rfl)
theorem c_Jx4a65c_get_915e3 (l : Launch) (μ : MP) (ν : NC) (a : AS) (Ad : Nat → Nat → Nat) (i : Nat) (x : Int32) (v : Nat) (h : ls_get μ ν i x = some v) : ∀ D E sz, Met l yJx4a65c_get_915e3 gwJx4a65c_get_915e3 ({ frames := 2, cells := 0, slots := 0, locals := 60 } : Room) (cP D E sz (zS μ ν a Ad) [] [.ref (Ad 4 i), .int x]) (cQ D E sz (zS μ ν a Ad) [] (pQ (fun r u => r = .ref (Ad (eK 5 i) v) ∧ u = (zS μ ν a Ad, [])))) (0) (0) (Aof (zS μ ν a Ad) [] sz) := by
  obtain ⟨g1, h⟩ := of_guard h
  obtain rfl := Option.some.inj h
  unfold ls_ok nzB ltB at g1
  simp only [Bool.and_eq_true, decide_eq_true_eq, Bool.not_eq_true', decide_eq_false_iff_not] at g1
  obtain ⟨⟨⟨⟨⟨⟨⟨⟨g1, g2⟩, g3⟩, g4⟩, g5⟩, g6⟩, g7⟩, g8⟩, g9⟩ := g1
  obtain ⟨n, hn, e2⟩ := nI_of g3
  obtain ⟨j, hj, rfl⟩ := nI_of g6
  rw [e2, nI_clamp hn] at g4
  rw [e2, nI_ltI hj hn] at g7
  rw [nI_clamp hj] at g8 ⊢
  exact k_Jx4a65c_get_915e3 l (zS μ ν a Ad) i ⟨g1, fun e => absurd e (by decide)⟩ j _ (by show ν.1 5 i ≠ 0; omega) ⟨g2, fun _ => by show ν.1 5 i ≠ 0; omega⟩ (by show j < ν.1 5 i; omega) (by show ν.1 5 i < 2 ^ 30; omega) (by show μ.2 5 i j = _; omega) n e2 g7 (by omega)
theorem c_Jx4a65c_clear_da8c8 (l : Launch) (μ : MP) (ν : NC) (a : AS) (Ad : Nat → Nat → Nat) (i : Nat) (r0 : MP × Int32) (h : ls_clear μ ν i = some r0) : ∀ D E sz, Met l yJx4a65c_clear_da8c8 gwJx4a65c_clear_da8c8 ({ frames := 0, cells := 0, slots := 0, locals := 0 } : Room) (cP D E sz (zS μ ν a Ad) [] [.ref (Ad 4 i)]) (cQ D E sz (zS μ ν a Ad) [] (pV (fun u => u = (zS r0.1 ν a Ad, [])))) (0) (0) (Aof (zS μ ν a Ad) [] sz) := by
  obtain ⟨g1, h⟩ := of_guard h
  obtain rfl := Option.some.inj h
  unfold ls_ok at g1
  simp only [Bool.and_eq_true, decide_eq_true_eq, Bool.not_eq_true', decide_eq_false_iff_not] at g1
  obtain ⟨⟨⟨⟨g1, g2⟩, g3⟩, g4⟩, g5⟩ := g1
  obtain ⟨n, hn, e2⟩ := nI_of g3
  have e3 : (μ.1 4 i 2).toNatClampNeg = n := by rw [e2, nI_clamp hn]
  rw [e3] at g4
  have hk := k_Jx4a65c_clear_da8c8 l (zS μ ν a Ad) i n ⟨g1, fun e => absurd e (by decide)⟩ e2 (by omega) (fun h => by show ν.1 5 i ≠ 0; omega) (fun h => ⟨g2, fun _ => by show ν.1 5 i ≠ 0; omega⟩) g4 (by show ν.1 5 i < 2 ^ 30; omega)
  have e4 : sQ (sM (sM (zS μ ν a Ad) 4 i 0 (rM (zS μ ν a Ad) 4 i 0 + 1)) 4 i 2 0) 5 i (cl0 (rP (zS μ ν a Ad) 5 i) n) = zS (up3 (up3 μ.1 4 i 0 (μ.1 4 i 0 + 1)) 4 i 2 0, up2 μ.2 5 i (cl0 (μ.2 5 i) n)) ν a Ad := by
    show (up3 (up3 (mx μ.1 a) 4 i 0 (mx μ.1 a 4 i 0 + 1)) 4 i 2 0, ν.1, up2 μ.2 5 i (cl0 (μ.2 5 i) n), ν.2, Ad) = _
    rw [mx_lo μ.1 a (show Nat.ble 4 39 = true from rfl), mx_cl _ _ _ _ _ rfl, mx_cl _ _ _ _ _ rfl]
  rw [e4] at hk
  rw [e3]
  exact hk
