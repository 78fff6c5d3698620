/-! THE LAW'S ROWS. -/
section LWROW
variable {p : Program} {l : Launch} {e : Env} {R : Room} {s : State} {m : MethodId} {args : Array Value} {below : List Frame} {meth : Method} {c : Code} {D : va_G} {E : Nat → ClassId} {A : Nat → Prop} {cc : ByteArray} {nL : Nat} {own : String} {Q : State → Prop}
variable {σ : RS} {ex : va_W} {cells slots pc : Nat} {lv : List (Nat × Value)} {rest : List Value}
variable {mc ms maxL n index : Nat} {y : MethodName} {bytes : ByteArray} {ws : List Cond} {rm : Room} {st0 : List Value} {B : Nat × (Nat → Nat)} {a30 a31 : Nat} {Qc : Array Value → State → Outcome → State → Prop}
variable {μ : MP} {ν : NC} {a : AS} {Ad : Nat → Nat → Nat}
theorem mx_90 (M : Nat → Nat → Nat → Int32) (a : AS) (j : Nat) (v : Int32) : up3 (mx M a) 90 0 j v = mx (up3 M 90 0 j v) a := by
  funext k' i'
  by_cases hc : k' = 90 ∧ i' = 0
  · obtain ⟨rfl, rfl⟩ := hc
    rw [up3_s]
    show up1 (M 90 0) j v = up3 M 90 0 j v 90 0
    rw [up3_s]
  · rw [up3_n _ _ hc]
    unfold mx
    cases hb : (Nat.ble 40 k' && Nat.ble k' 89 && Nat.beq i' 0) with
    | true => rfl
    | false =>
      show M k' i' = up3 M 90 0 j v k' i'
      rw [up3_n _ _ hc]
theorem stL9 (cA : ClassId) (n j : Nat) (f : Nat → Int32) (x : Int32) : (vp_cell cA (n, .inr (.inl (fun q => (f q).toInt64)))).setSlot j (.long x.toInt64) = vp_cell cA (n, .inr (.inl (fun q => (up1 f j x q).toInt64))) := by
  rw [vp_cell_l, vp_cell_l, arrV_store]
  congr 2
  funext q
  by_cases hq : q = j
  · subst hq
    simp [updV, up1]
  · simp [updV, up1, hq]
theorem g_lald (C : cx p s m args meth c D E A cc nL own) {q : Nat} (hq : Ad 90 0 = q) (h9 : 0 < ν.2 90 ∧ ν.1 90 0 = 1) (hd : decode cc pc = .ok (.laload, 1)) (kk : G p l e R s m args below meth c D E A nL Q (zS μ ν a Ad) ex cells slots (pc + 1) lv (.long (μ.1 90 0 0).toInt64 :: rest)) : G p l e R s m args below meth c D E A nL Q (zS μ ν a Ad) ex cells slots pc lv (.int 0 :: .ref q :: rest) := fun H locs ls hw hs hl =>
  va_lald C.1 C.2.1 C.2.2.2.2.2.2.1 (wld_one hw (k := 90) (i := 0) ⟨h9.1, fun e => absurd e (by decide)⟩ hq (by decide) (by decide)) 0 4 (cA := E 4) (n := ν.1 90 0) (f := fun j => (μ.1 90 0 j).toInt64) rfl rfl (by rw [h9.2]; unfold vp_in; decide) hd (kk H locs ls hw hs hl)
theorem g_last (C : cx p s m args meth c D E A cc nL own) {q : Nat} {x : Int32} (hq : Ad 90 0 = q) (h9 : 0 < ν.2 90 ∧ ν.1 90 0 = 1) (hd : decode cc pc = .ok (.lastore, 1)) (kk : G p l e R s m args below meth c D E A nL Q (zS (up3 μ.1 90 0 0 x, μ.2) ν a Ad) ex cells slots (pc + 1) lv (rest)) : G p l e R s m args below meth c D E A nL Q (zS μ ν a Ad) ex cells slots pc lv (.long x.toInt64 :: .int 0 :: .ref q :: rest) := fun H locs ls hw hs hl => by
  subst hq
  have hlv : live (zS μ ν a Ad) 90 0 := ⟨h9.1, fun e => absurd e (by decide)⟩
  have hat : H[Ad 90 0]? = some (vp_cell (E 4) (ν.1 90 0, .inr (.inl (fun j => (μ.1 90 0 j).toInt64)))) := (hw.1 90 0 hlv).1.to (by decide) (by decide)
  refine W.last C.1 C.2.1 hat ((C.2.2.2.2.2.2.1.2 4 _ rfl).1 _ (fun j => .long (μ.1 90 0 j).toInt64)) (fun q => by cases q) (by show ¬ ((0 : Int32) < 0 ∨ (arrV _ _ _).slots.size ≤ _); rw [arrV_size]; show ¬ ((0 : Int32) < 0 ∨ ν.1 90 0 ≤ _); rw [h9.2]; decide) rfl rfl hd fun H1 e z oq => ?_
  have e4 : zS (up3 μ.1 90 0 0 x, μ.2) ν a Ad = sM (zS μ ν a Ad) 90 0 0 x := by
    show (mx (up3 μ.1 90 0 0 x) a, _) = (up3 (mx μ.1 a) 90 0 0 x, _)
    rw [mx_90]
  rw [e4] at kk
  refine kk H1 _ ls (wld_cell (σ' := sM (zS μ ν a Ad) 90 0 0 x) hw hlv rfl rfl (sM_other (zS μ ν a Ad) 90 0 _ _) ?_ oq) (hs.put z oq ((hw.1 90 0 hlv).2 (by decide) (by decide))) hl
  show H1[Ad 90 0]? = some (vp_cell (E 4) (ν.1 90 0, .inr (.inl (fun j => (rM (sM (zS μ ν a Ad) 90 0 0 x) 90 0 j).toInt64))))
  rw [e, rM_sM]
  exact congrArg some (stL9 _ _ _ _ _)
theorem g_lconst (C : cx p s m args meth c D E A cc nL own) {k2 : Fin 2} {v : Int64} (hd : decode cc pc = .ok (.lconst k2, 1)) (hv : Int64.ofNat (k2 : Nat) = v) (k : G p l e R s m args below meth c D E A nL Q σ ex cells slots (pc + 1) lv (.long v :: rest)) : G p l e R s m args below meth c D E A nL Q σ ex cells slots (pc) lv (rest) := fun H locs ls hw hs hl => lv_lconst C.1 C.2.1 hd hv (k H locs ls hw hs hl)
theorem g_lcmp (C : cx p s m args meth c D E A cc nL own) {x y : Int64} (hd : decode cc pc = .ok (.lcmp, 1)) (k : ∀ r : Int32, (r = 0 ↔ x = y) → G p l e R s m args below meth c D E A nL Q σ ex cells slots (pc + 1) lv (.int r :: rest)) : G p l e R s m args below meth c D E A nL Q σ ex cells slots (pc) lv (.long y :: .long x :: rest) := fun H locs ls hw hs hl => by
  obtain ⟨hexec, hb, -⟩ := C
  intro T hT X
  by_cases h1 : y < x
  · obtain ⟨t, a1, b1⟩ := k 1 ⟨fun h => absurd h (by decide), fun h => absurd (h ▸ h1) Int64.lt_irrefl⟩ H locs ls hw hs hl T hT X
    refine ⟨t, ?_, b1⟩
    jvm_step X.here [X.here.top, hexec, hb, hd, h1]
    exact a1
  · by_cases h2 : x = y
    · obtain ⟨t, a1, b1⟩ := k 0 ⟨fun _ => h2, fun _ => rfl⟩ H locs ls hw hs hl T hT X
      refine ⟨t, ?_, b1⟩
      subst h2
      jvm_step X.here [X.here.top, hexec, hb, hd, h1]
      exact a1
    · obtain ⟨t, a1, b1⟩ := k (-1) ⟨fun h => absurd h (by decide), fun h => absurd h h2⟩ H locs ls hw hs hl T hT X
      refine ⟨t, ?_, b1⟩
      jvm_step X.here [X.here.top, hexec, hb, hd, h1, h2]
      exact a1
theorem toI64_inj {x y : Int32} (h : x.toInt64 = y.toInt64) : x = y := by
  have h1 := congrArg Int64.toInt32 h
  rw [Int32.toInt32_toInt64, Int32.toInt32_toInt64] at h1
  exact h1
def eN : List (String × String) := [(exN 2, exN 1), (exN 3, exN 1), (exN 3, exN 2)]
def vN (U : State) : Prop := ∀ q ∈ eN, va_Nc q.1 q.2 U
def cPh (D : va_G) (E : Nat → ClassId) (sz : Nat) (B : Nat × (Nat → Nat)) (σ : RS) (av : List Value) : Array Value → State → Prop := fun x U => cPe D E sz B σ [] [] av x U ∧ vN U
theorem cPh_blind {av : List Value} {sz : Nat} : FrameBlind (cPh D E sz B σ av) := fun x U g mk q => ⟨cPe_blind x U g mk q.1, fun z hz => va_Nc.moved (u := U) (U := U.calling g mk x) (Vm.Alike.refl U.vm) (q.2 z hz)⟩
theorem vN.warm {U : State} (h : vN s) (hW : s.WarmedH U.vm) : vN U := fun q hq => va_Nc.moved hW.alike (h q hq)
/-- the start of a wrapper, a method with handlers -/
theorem g_ofH {sz : Nat} {av : List Value} {ret : Option FieldType} {hh : List (Nat × Nat × Nat × Nat)} (hy : plainName y.cls = true) (hyo : y.cls = own) (hw : ws = Cond.codeWith y cc maxL ret hh :: GT) (hle : (lg_sl av).length ≤ maxL)
    (body : ∀ p e s m (args : Array Value) below meth c, cx p s m args meth c D E (Aof σ [] s.heap.size) cc maxL own → meth.sig.returnType = ret → c.exceptionTable.toList = tableOf hh → s.heap.size = sz → eV (rA σ 30 0) (rA σ 31 0) B (Aof σ [] s.heap.size) s s.heap → vN s →
      G p l e rm s m args below meth c D E (Aof σ [] s.heap.size) maxL (vx_MQ below Qc (fun _ _ _ => False) args s mc ms (Aof σ [] s.heap.size)) σ [] 0 0 0 (lv_args 0 av) []) : vx_Met l y ws rm (cPh D E sz B σ av) Qc (fun _ _ _ => False) mc ms (Aof σ [] sz) := by
  refine vx_ofWH (cc := cc) (maxL := maxL) (ret := ret) (hh := hh) hy hw ?_
  intro p e s m args below meth c s₁ B hml hv
  obtain ⟨⟨rfl, hsz, hW, hK, hEv⟩, hN⟩ := hv
  have hown : s.vm.findClass own = some m.cls := by rw [← hyo]; exact findClass_of_methodNamed B.named
  have hA : ∀ q, s.heap.size ≤ q → Aof σ [] s.heap.size q := fun q h => Or.inr (Or.inr h)
  have hl := lv_entry av (n := maxL) hle
  rw [lg_entry_eq]
  generalize (lg_sl av ++ List.replicate (maxL - (lg_sl av).length) Slot.unset).toArray = ls at hl ⊢
  subst hsz
  exact body p e s m _ below meth c ⟨B.exec, B.bytes, hown, fun w h => atoms_spec (ws := ws) B.pre w (by rw [hw]; exact List.mem_cons_of_mem _ h), hml, B.notSynchronized, hK, hA⟩ B.returns (vx_table (x := y) B (atoms_spec (ws := ws) B.pre _ (by rw [hw]; exact List.mem_cons_self))) rfl hEv hN s.heap [] ls
    (wld_mono hW (fun k i hl h1 h2 _ => Or.inl ⟨k, i, hl, h1, h2, rfl⟩)) va_S.rf hl
/-- from here on nothing throws -/
theorem g_vx {XC : String → State → State → Prop} {fr : Addr → Prop} (k : G p l e R s m args below meth c D E A nL (MQ below Qc args s mc ms fr) σ ex cells slots pc lv st0) : G p l e R s m args below meth c D E A nL (vx_MQ below Qc XC args s mc ms fr) σ ex cells slots pc lv st0 := fun H locs ls hw hs hl => vx_ret (k H locs ls hw hs hl)
/-- a call that throws, caught here -/
theorem g_hc {ret : Option FieldType} (C : cx p s m args meth c D E (Aof σ [] s.heap.size) cc nL own) (hEv : eV a30 a31 B (Aof σ [] s.heap.size) s s.heap) (h3 : rA σ 30 0 = a30 ∧ rA σ 31 0 = a31) (hN : vN s) {b : Nat} (As rest : List Value) (hst : st0 = As.reverse ++ .ref b :: rest) (hn : As.length = index) {ix : Nat} (hM : ∀ sz, vx_Met l y ws rm (cPe D E sz B σ [] [] (.ref b :: As)) (fun _ _ _ _ => False) (cX D E sz σ n) 1 6 (Aof σ [] sz)) (hwl : ws = Cond.code y bytes maxL ret :: GT) (hcd : Cond.code y bytes maxL ret ∈ GT) (hini : Cond.initialized y.cls ∈ GT) (hlk : Cond.methodLink own ix y ∈ GT) (hins : Cond.instanceMethod y ∈ GT) (hsel : Cond.selects y.cls y y ∈ GT) (hsg : y.cls ≠ "java/lang/invoke/MethodHandle" ∧ y.cls ≠ "java/lang/invoke/VarHandle" ∧ (parseMethodDescriptor y.desc).map (fun d => d.parameters.length) = some index) (hrm : rm.cells = 1 ∧ rm.slots = 6) (hRm : rm.frames + 1 ≤ R.frames ∧ 8 + (maxL + 11) + rm.locals ≤ R.locals) (hb : rcv σ [] y.cls b) (hrest : (rest.map fun v => v.category).sum ≤ 8) (hd : decode cc pc = .ok (.invokevirtual ix, 3)) (hf : 1 ≤ R.cells ∧ 6 ≤ R.slots)
    (pre : List ExceptionTableEntry) (x : ExceptionTableEntry) (suf : List ExceptionTableEntry) (hsplit : c.exceptionTable.toList = pre ++ x :: suf) (hpass : ∀ z ∈ pre, z.catchType ≠ 0 ∧ ∃ nm : String, Cond.classLink own z.catchType nm ∈ GT ∧ (exN n, nm) ∈ eN) (hx : covers x pc = true) (h0 : x.catchType ≠ 0) (hlink : Cond.classLink own x.catchType (exN n) ∈ GT) (hX : exN n ∈ eX) {tgt : Nat} (htg : x.handlerPc = tgt)
    (kk : ∀ q9, G p l e R s m args below meth c D E (Aof σ [] s.heap.size) nL Q σ [] (0 + 1) (0 + 6) tgt lv [.ref q9]) : G p l e R s m args below meth c D E (Aof σ [] s.heap.size) nL Q σ [] 0 0 pc lv st0 := fun H locs ls hw hs hlv => by
  subst htg
  intro T hTT X
  have hA := C.2.2.2.2.2.2.2
  have hF := Aof_in hw hs hA (wr := []) (fun q h => by simp at h)
  have hr := vx_runV (p := p) (l := l) (e := e) (R := R) (below := below) (meth := meth) (H := H) (locs := locs) (cells := 0) (slots := 0) (g := F0 m pc ls st0) (As := As) (rest := rest) ⟨C.1, C.2.1, C.2.2.2.2.1, C.2.2.1, C.2.2.2.1⟩ (hM H.size) ⟨(gcB C hwl hcd hini hlk hsg hrm hRm), C.2.2.2.1 _ hins, C.2.2.2.1 _ hsel⟩ ⟨cPe_blind, rcv_at hw C.2.2.2.2.2.2.1 hb, fun U hU hW => ⟨rfl, by rw [hU], by rw [hU]; exact wld_mono hw (fun _ _ _ _ _ _ => trivial), va_K.moved hW.alike C.2.2.2.2.2.2.1, eV_call C hw hs (fun q h => by simp at h) hEv h3 hU hW⟩⟩ rfl hn hlv.1 hst (by show 2 * 0 + _ ≤ 8; omega) hd (by omega)
  rcases hr T hTT X with ⟨v, st₀, t, T', L, h0', X', hL, e1, e2, hfalse, st⟩ | ⟨q, st₀, t, T', L, En, ce, h0', X', hL, e1, e2, ⟨hEn, hB, hz2, hk⟩, hce, hcv, hcl, st⟩
  · exact hfalse.elim
  · rw [h0'] at hz2 hk
    have hw2 := wld_back (exc := []) (exr := []) hw hs hA (wr := []) (fun q h => by simp at h) [] [] rfl rfl rfl (fun _ h => by simp at h) (fun q h => by simp at h) e1.symm hB (fun q h1 h2 => by rw [e1]; exact hk q h1 h2)
    have hs2 : va_S (Aof σ [] s.heap.size) s.heap T'.heap (locs ++ L) := ⟨Nat.le_trans hs.1 (by rw [e1]; exact hz2), fun q h1 h2 => by rw [e1, hk q (Nat.lt_of_lt_of_le h1 hs.1) (fun z => h2 (hF q z))]; exact hs.2.1 q h1 h2, fun q hq => by
      rcases List.mem_append.mp hq with h | h
      · exact hs.2.2 q h
      · exact hF _ (hL q h)⟩
    rw [hEn] at hcl
    obtain ⟨t2, a1, b1⟩ := vx_catch (R := R) (l := l) (below := below) (args := args) (pc := pc) (ls := ls) (rest := rest) (E := exN n) (name := exN n) (ce := ce) (q := q) (locs := locs ++ L) (H := T'.heap) (p := p) (e := e) (m := m) (cells := 0 + 1) (slots := 0 + 6) (Q := Q) C.2.2.1 pre x suf hsplit (fun z hz => Or.inr ⟨(hpass z hz).1, by obtain ⟨nm, g1, g2⟩ := (hpass z hz).2; exact ⟨nm, C.2.2.2.1 _ g1, hN _ g2⟩⟩) hx h0 (C.2.2.2.1 _ hlink) ((hEv.2.2.2.2.2.2.1 _ (List.mem_cons_self ..)).2.1 _ hX) (by rw [e1]; exact hce) hcv hcl (kk q T'.heap (locs ++ L) ls (wld_sub hw2 [] rfl rfl) hs2 hlv) T' rfl X'
    exact ⟨t2, st.trans a1, b1⟩
end LWROW
