/-! THE LAW'S ROWS. -/
section LWROW
variable {p : Program} {l : Launch} {e : Env} {R : Room} {s : State} {m : MethodId} {args : Array Value} {below : List Frame} {meth : Method} {c : Code} {D : va_G} {E : Nat → ClassId} {A : Nat → Prop} {cc : ByteArray} {nL : Nat} {own : String} {Q : State → Prop}
variable {σ : RS} {ex : va_W} {cells slots pc : Nat} {lv : List (Nat × Value)} {rest : List Value}
variable {mc ms maxL n index : Nat} {y : MethodName} {bytes : ByteArray} {ws : List Cond} {rm : Room} {st0 : List Value} {B : Nat × (Nat → Nat)} {a30 a31 : Nat} {Qc : Array Value → State → Outcome → State → Prop}
variable {μ : MP} {ν : NC} {a : AS} {Ad : Nat → Nat → Nat}

def eN : List (String × String) := [(exN 2, exN 1), (exN 3, exN 1), (exN 3, exN 2)]
def vN (U : State) : Prop := ∀ q ∈ eN, va_Nc q.1 q.2 U
def cPh (D : va_G) (E : Nat → ClassId) (sz : Nat) (B : Nat × (Nat → Nat)) (σ : RS) (av : List Value) : Array Value → State → Prop := fun x U => cPe D E sz B σ [] [] av x U ∧ vN U
theorem cPh_blind {av : List Value} {sz : Nat} : FrameBlind (cPh D E sz B σ av) := fun x U g mk q => ⟨cPe_blind x U g mk q.1, fun z hz => va_Nc.moved (u := U) (U := U.calling g mk x) (Vm.Alike.refl U.vm) (q.2 z hz)⟩
theorem vN.warm {U : State} (h : vN s) (hW : s.WarmedH U.vm) : vN U := fun q hq => va_Nc.moved hW.alike (h q hq)
/-- the start of a wrapper, a method with handlers -/
theorem g_ofH {sz : Nat} {av : List Value} {ret : Option FieldType} {hh : List (Nat × Nat × Nat × Nat)} (hy : plainName y.cls = true) (hyo : y.cls = own) (hw : ws = Cond.codeWith y cc maxL ret hh :: GT) (hle : (lg_sl av).length ≤ maxL)
    (body : ∀ p e s m (args : Array Value) below meth c, cx p s m args meth c D E (Aof σ [] s.heap.size) cc maxL own → meth.sig.returnType = ret → c.exceptionTable.toList = tableOf hh → s.heap.size = sz → eV (rA σ 30 0) (rA σ 31 0) B (Aof σ [] s.heap.size) s s.heap → vN s →
      G p l e rm s m args below meth c D E (Aof σ [] s.heap.size) maxL (vx_MQ below Qc (fun _ _ _ => False) args s mc ms (Aof σ [] s.heap.size)) σ [] 0 0 0 (lv_args 0 av) []) : vx_Met l y ws rm (cPh D E sz B σ av) Qc (fun _ _ _ => False) mc ms (Aof σ [] sz) := by
  refine vx_ofWH (cc := cc) (maxL := maxL) (ret := ret) (hh := hh) hy hw ?_
  intro p e s m args below meth c s₁ B hml hv
  obtain ⟨⟨rfl, hsz, hW, hK, hEv⟩, hN⟩ := hv
  have hown : s.vm.findClass own = some m.cls := by rw [← hyo]; exact findClass_of_methodNamed B.named
  have hA : ∀ q, s.heap.size ≤ q → Aof σ [] s.heap.size q := fun q h => Or.inr (Or.inr h)
  have hl := lv_entry av (n := maxL) hle
  rw [lg_entry_eq]
  generalize (lg_sl av ++ List.replicate (maxL - (lg_sl av).length) Slot.unset).toArray = ls at hl ⊢
  subst hsz
  exact body p e s m _ below meth c ⟨B.exec, B.bytes, hown, fun w h => atoms_spec (ws := ws) B.pre w (by rw [hw]; exact List.mem_cons_of_mem _ h), hml, B.notSynchronized, hK, hA⟩ B.returns (vx_table (x := y) B (atoms_spec (ws := ws) B.pre _ (by rw [hw]; exact List.mem_cons_self))) rfl hEv hN s.heap [] ls
    (wld_mono hW (fun k i hl h1 h2 _ => Or.inl ⟨k, i, hl, h1, h2, rfl⟩)) va_S.rf hl
/-- from here on nothing throws -/
theorem g_vx {XC : String → State → State → Prop} {fr : Addr → Prop} (k : G p l e R s m args below meth c D E A nL (MQ below Qc args s mc ms fr) σ ex cells slots pc lv st0) : G p l e R s m args below meth c D E A nL (vx_MQ below Qc XC args s mc ms fr) σ ex cells slots pc lv st0 := fun H locs ls hw hs hl => vx_ret (k H locs ls hw hs hl)
/-- a call that throws, caught here -/
theorem g_hc {ret : Option FieldType} (C : cx p s m args meth c D E (Aof σ [] s.heap.size) cc nL own) (hEv : eV a30 a31 B (Aof σ [] s.heap.size) s s.heap) (h3 : rA σ 30 0 = a30 ∧ rA σ 31 0 = a31) (hN : vN s) {b : Nat} (As rest : List Value) (hst : st0 = As.reverse ++ .ref b :: rest) (hn : As.length = index) {ix : Nat} (hM : ∀ sz, vx_Met l y ws rm (cPe D E sz B σ [] [] (.ref b :: As)) (fun _ _ _ _ => False) (cX D E sz σ n) 1 6 (Aof σ [] sz)) (hwl : ws = Cond.code y bytes maxL ret :: GT) (hcd : Cond.code y bytes maxL ret ∈ GT) (hini : Cond.initialized y.cls ∈ GT) (hlk : Cond.methodLink own ix y ∈ GT) (hins : Cond.instanceMethod y ∈ GT) (hsel : Cond.selects y.cls y y ∈ GT) (hsg : y.cls ≠ "java/lang/invoke/MethodHandle" ∧ y.cls ≠ "java/lang/invoke/VarHandle" ∧ (parseMethodDescriptor y.desc).map (fun d => d.parameters.length) = some index) (hrm : rm.cells = 1 ∧ rm.slots = 6) (hRm : rm.frames + 1 ≤ R.frames ∧ 8 + (maxL + 11) + rm.locals ≤ R.locals) (hb : rcv σ [] y.cls b) (hrest : (rest.map fun v => v.category).sum ≤ 8) (hd : decode cc pc = .ok (.invokevirtual ix, 3)) (hf : 1 ≤ R.cells ∧ 6 ≤ R.slots)
    (pre : List ExceptionTableEntry) (x : ExceptionTableEntry) (suf : List ExceptionTableEntry) (hsplit : c.exceptionTable.toList = pre ++ x :: suf) (hpass : ∀ z ∈ pre, z.catchType ≠ 0 ∧ ∃ nm : String, Cond.classLink own z.catchType nm ∈ GT ∧ (exN n, nm) ∈ eN) (hx : covers x pc = true) (h0 : x.catchType ≠ 0) (hlink : Cond.classLink own x.catchType (exN n) ∈ GT) (hX : exN n ∈ eX) {tgt : Nat} (htg : x.handlerPc = tgt)
    (kk : ∀ q9, G p l e R s m args below meth c D E (Aof σ [] s.heap.size) nL Q σ [] (0 + 1) (0 + 6) tgt lv [.ref q9]) : G p l e R s m args below meth c D E (Aof σ [] s.heap.size) nL Q σ [] 0 0 pc lv st0 := fun H locs ls hw hs hlv => by
  subst htg
  intro T hTT X
  have hA := C.2.2.2.2.2.2.2
  have hF := Aof_in hw hs hA (wr := []) (fun q h => by simp at h)
  have hr := vx_runV (p := p) (l := l) (e := e) (R := R) (below := below) (meth := meth) (H := H) (locs := locs) (cells := 0) (slots := 0) (g := F0 m pc ls st0) (As := As) (rest := rest) ⟨C.1, C.2.1, C.2.2.2.2.1, C.2.2.1, C.2.2.2.1⟩ (hM H.size) ⟨(gcB C hwl hcd hini hlk hsg hrm hRm), C.2.2.2.1 _ hins, C.2.2.2.1 _ hsel⟩ ⟨cPe_blind, rcv_at hw C.2.2.2.2.2.2.1 hb, fun U hU hW => ⟨rfl, by rw [hU], by rw [hU]; exact wld_mono hw (fun _ _ _ _ _ _ => trivial), va_K.moved hW.alike C.2.2.2.2.2.2.1, eV_call C hw hs (fun q h => by simp at h) hEv h3 hU hW⟩⟩ rfl hn hlv.1 hst (by show 2 * 0 + _ ≤ 8; omega) hd (by omega)
  rcases hr T hTT X with ⟨v, st₀, t, T', L, h0', X', hL, e1, e2, hfalse, st⟩ | ⟨q, st₀, t, T', L, En, ce, h0', X', hL, e1, e2, ⟨hEn, hB, hz2, hk⟩, hce, hcv, hcl, st⟩
  · exact hfalse.elim
  · rw [h0'] at hz2 hk
    have hw2 := wld_back (exc := []) (exr := []) hw hs hA (wr := []) (fun q h => by simp at h) [] [] rfl rfl rfl (fun _ h => by simp at h) (fun q h => by simp at h) e1.symm hB (fun q h1 h2 => by rw [e1]; exact hk q h1 h2)
    have hs2 : va_S (Aof σ [] s.heap.size) s.heap T'.heap (locs ++ L) := ⟨Nat.le_trans hs.1 (by rw [e1]; exact hz2), fun q h1 h2 => by rw [e1, hk q (Nat.lt_of_lt_of_le h1 hs.1) (fun z => h2 (hF q z))]; exact hs.2.1 q h1 h2, fun q hq => by
      rcases List.mem_append.mp hq with h | h
      · exact hs.2.2 q h
      · exact hF _ (hL q h)⟩
    rw [hEn] at hcl
    obtain ⟨t2, a1, b1⟩ := vx_catch (R := R) (l := l) (below := below) (args := args) (pc := pc) (ls := ls) (rest := rest) (E := exN n) (name := exN n) (ce := ce) (q := q) (locs := locs ++ L) (H := T'.heap) (p := p) (e := e) (m := m) (cells := 0 + 1) (slots := 0 + 6) (Q := Q) C.2.2.1 pre x suf hsplit (fun z hz => Or.inr ⟨(hpass z hz).1, by obtain ⟨nm, g1, g2⟩ := (hpass z hz).2; exact ⟨nm, C.2.2.2.1 _ g1, hN _ g2⟩⟩) hx h0 (C.2.2.2.1 _ hlink) ((hEv.2.2.2.2.2.2.1 _ (List.mem_cons_self ..)).2.1 _ hX) (by rw [e1]; exact hce) hcv hcl (kk q T'.heap (locs ++ L) ls (wld_sub hw2 [] rfl rfl) hs2 hlv) T' rfl X'
    exact ⟨t2, st.trans a1, b1⟩

variable {exr : va_W}
theorem vx_toR {H : Heap} {locs : List Loc} {g : JFrame} {Qa : State → Outcome → State → Prop} {free : Addr → Prop} (h : vx_Run p l e R s m args below meth c H locs cells slots mc ms g rest Qa (fun _ _ _ => False) free) : va_Run p l e R s m args below meth c H locs cells slots mc ms g rest Qa free := fun T hT X => by
  rcases h T hT X with h1 | ⟨q, st₀, t, T', L, En, ce, h0, X', hL, e1, e2, hf, -⟩
  · exact h1
  · exact hf.elim
/-- the law calls a wrapper -/
theorem g_cSh (C : cx p s m args meth c D E A cc nL own) (hEv : eV a30 a31 B A s s.heap) (hN : vN s) (h3 : rA σ 30 0 = a30 ∧ rA σ 31 0 = a31) {post0 : Int32 → RS × va_W → Prop} {ret : Option FieldType} {hh : List (Nat × Nat × Nat × Nat)} (As rest : List Value) (hst : st0 = As.reverse ++ rest) (hn : As.length = n) (isR : List Nat) (hR : isR.map (fun i => ex[i]?) = exr.map some) (hnR : va_nd isR = true) (hM : ∀ sz, vx_Met l y ws rm (cPh D E sz B σ As) (cQ D E sz σ [] (pI post0)) (fun _ _ _ => False) mc ms (Aof σ [] sz)) (hwl : ws = Cond.codeWith y bytes maxL ret hh :: GT) (hcd : Cond.codeWith y bytes maxL ret hh ∈ GT) (hini : Cond.initialized y.cls ∈ GT) (hlk : Cond.methodLink own index y ∈ GT) (hstat : Cond.static y ∈ GT) (hsg : y.cls ≠ "java/lang/invoke/MethodHandle" ∧ y.cls ≠ "java/lang/invoke/VarHandle" ∧ (parseMethodDescriptor y.desc).map (fun d => d.parameters.length) = some n) (hrm : rm.cells = mc ∧ rm.slots = ms) (hRm : rm.frames + 1 ≤ R.frames ∧ 8 + (maxL + 11) + rm.locals ≤ R.locals) (hrest : (rest.map fun v => v.category).sum ≤ 8) (hd : decode cc pc = .ok (.invokestatic index, 3)) (hf : cells + mc ≤ R.cells ∧ slots + ms ≤ R.slots) (kk : ∀ (r : Int32) (u : RS × va_W), post0 r u → (∀ (j : Nat) x, u.2[j]? = some x → A x.1 ∧ (x.1 ∈ ([] : List Nat) ∨ s.heap.size ≤ x.1)) → G p l e R s m args below meth c D E A nL Q u.1 (u.2 ++ exr) (cells + mc) (slots + ms) (pc + 3) lv (.int r :: rest)) : G p l e R s m args below meth c D E A nL Q σ ex cells slots pc lv st0 :=
  g_af (exc := []) (exr := exr) (wr := []) C [] isR rfl hR rfl hnR (fun _ _ h => absurd h (by simp)) (fun _ h => absurd h (by simp)) (fun _ h => absurd h (by simp)) (a := As.toArray) (rest := rest) (fun H locs ls hw hs hl => vx_toR (vx_runSX (hh := hh) (bytes := bytes) (maxL := maxL) (ret := ret) (As := As) (rest := rest) ⟨C.1, C.2.1, C.2.2.2.2.1, C.2.2.1, C.2.2.2.1⟩ (hM H.size) ⟨⟨hrm.1, hrm.2, hRm.1, hRm.2, pay_in C.2.2.2.1 (GG_ws hwl hcd), by rw [hwl]; exact List.mem_cons_self⟩, C.2.2.2.1 _ hcd, C.2.2.2.1 _ hini, ⟨hsg.1, hsg.2.1⟩, fun sig h => by have h2 := hsg.2.2; rw [h] at h2; exact (Option.some.inj h2).symm, C.2.2.2.1 _ hlk, C.2.2.2.1 _ hstat⟩ ⟨cPh_blind, fun U hU hW => ⟨⟨rfl, by rw [hU], by rw [hU]; exact wld_mono (wld_sub hw [] rfl rfl) (fun _ _ _ _ _ _ => trivial), va_K.moved hW.alike C.2.2.2.2.2.2.1, eV_call C hw hs (fun q h => by simp at h) hEv h3 hU hW⟩, hN.warm hW⟩⟩ rfl hn hl.1 hst (by show 2 * 0 + _ ≤ 8; omega) hd hf)) (fun v u hp hx => by obtain ⟨r, rfl, hp⟩ := hp; exact kk r u hp hx)

end LWROW
def nz (x : Int32) : Int32 := if x = 0 then 0 else 1

section LWR2
variable {p : Program} {l : Launch} {e : Env} {R : Room} {s : State} {m : MethodId} {args : Array Value} {below : List Frame} {meth : Method} {c : Code} {D : va_G} {E : Nat → ClassId} {A : Nat → Prop} {cc : ByteArray} {nL : Nat} {own : String} {Q : State → Prop}
variable {σ : RS} {ex : va_W} {cells slots pc : Nat} {lv : List (Nat × Value)} {rest : List Value}
variable {mc ms maxL n index : Nat} {y : MethodName} {bytes : ByteArray} {ws : List Cond} {rm : Room} {st0 : List Value} {B : Nat × (Nat → Nat)} {a30 a31 : Nat} {Qc : Array Value → State → Outcome → State → Prop}
variable {μ : MP} {ν : NC} {a : AS} {Ad : Nat → Nat → Nat}

variable {exr : va_W}
theorem g_nz (C : cx p s m args meth c D E A cc nL own) {x : Int32} (d0 : decode cc pc = .ok (.ifCond .eq 7, 3)) (d1 : decode cc (pc + 3) = .ok (.iconst 1, 1)) (d2 : decode cc (pc + 4) = .ok (.goto 4, 3)) (d3 : decode cc (pc + 7) = .ok (.iconst 0, 1)) (kk : G p l e R s m args below meth c D E A nL Q σ ex cells slots (pc + 8) lv (.int (nz x) :: rest)) : G p l e R s m args below meth c D E A nL Q σ ex cells slots pc lv (.int x :: rest) := by
  refine g_if_eq (tgt := pc + 7) C d0 (by omega) (fun c0 => ?_) (fun c0 => ?_)
  · rw [nz, if_pos c0] at kk
    exact g_iconst (v := 0) C d3 (by decide) kk
  · rw [nz, if_neg c0] at kk
    exact g_iconst (v := 1) C d1 (by decide) (g_goto (tgt := pc + 8) C d2 (by omega) kk)

theorem g_ofN {sz : Nat} {av : List Value} {ret : Option FieldType} (hy : plainName y.cls = true) (hyo : y.cls = own) (hw : ws = Cond.code y cc maxL ret :: GT) (hle : (lg_sl av).length ≤ maxL)
    (body : ∀ p e s m (args : Array Value) below meth c, cx p s m args meth c D E (Aof σ [] s.heap.size) cc maxL own → meth.sig.returnType = ret → s.heap.size = sz → eV (rA σ 30 0) (rA σ 31 0) B (Aof σ [] s.heap.size) s s.heap → vN s →
      G p l e rm s m args below meth c D E (Aof σ [] s.heap.size) maxL (MQ below Qc args s mc ms (Aof σ [] s.heap.size)) σ [] 0 0 0 (lv_args 0 av) []) : Met l y ws rm (cPh D E sz B σ av) Qc mc ms (Aof σ [] sz) := by
  refine Met.ofW (cc := cc) (maxL := maxL) (ret := ret) hy hw ?_
  intro p e s m args below meth c s₁ B hml hv
  obtain ⟨⟨rfl, hsz, hW, hK, hEv⟩, hN⟩ := hv
  have hown : s.vm.findClass own = some m.cls := by rw [← hyo]; exact findClass_of_methodNamed B.named
  have hA : ∀ q, s.heap.size ≤ q → Aof σ [] s.heap.size q := fun q h => Or.inr (Or.inr h)
  have hl := lv_entry av (n := maxL) hle
  rw [lg_entry_eq]
  generalize (lg_sl av ++ List.replicate (maxL - (lg_sl av).length) Slot.unset).toArray = ls at hl ⊢
  subst hsz
  exact body p e s m _ below meth c ⟨B.exec, B.bytes, hown, fun w h => atoms_spec (ws := ws) B.pre w (by rw [hw]; exact List.mem_cons_of_mem _ h), hml, B.notSynchronized, hK, hA⟩ B.returns rfl hEv hN s.heap [] ls
    (wld_mono hW (fun k i hl h1 h2 _ => Or.inl ⟨k, i, hl, h1, h2, rfl⟩)) va_S.rf hl

theorem g_cSN (C : cx p s m args meth c D E A cc nL own) (hEv : eV a30 a31 B A s s.heap) (hN : vN s) (h3 : rA σ 30 0 = a30 ∧ rA σ 31 0 = a31) {post0 : Int32 → RS × va_W → Prop} {ret : Option FieldType} (As rest : List Value) (hst : st0 = As.reverse ++ rest) (hn : As.length = n) (isR : List Nat) (hR : isR.map (fun i => ex[i]?) = exr.map some) (hnR : va_nd isR = true) (hM : ∀ sz, Met l y ws rm (cPh D E sz B σ As) (cQ D E sz σ [] (pI post0)) mc ms (Aof σ [] sz)) (hwl : ws = Cond.code y bytes maxL ret :: GT) (hcd : Cond.code y bytes maxL ret ∈ GT) (hini : Cond.initialized y.cls ∈ GT) (hlk : Cond.methodLink own index y ∈ GT) (hstat : Cond.static y ∈ GT) (hsg : y.cls ≠ "java/lang/invoke/MethodHandle" ∧ y.cls ≠ "java/lang/invoke/VarHandle" ∧ (parseMethodDescriptor y.desc).map (fun d => d.parameters.length) = some n) (hrm : rm.cells = mc ∧ rm.slots = ms) (hRm : rm.frames + 1 ≤ R.frames ∧ 8 + (maxL + 11) + rm.locals ≤ R.locals) (hrest : (rest.map fun v => v.category).sum ≤ 8) (hd : decode cc pc = .ok (.invokestatic index, 3)) (hf : cells + mc ≤ R.cells ∧ slots + ms ≤ R.slots) (kk : ∀ (r : Int32) (u : RS × va_W), post0 r u → (∀ (j : Nat) x, u.2[j]? = some x → A x.1 ∧ (x.1 ∈ ([] : List Nat) ∨ s.heap.size ≤ x.1)) → G p l e R s m args below meth c D E A nL Q u.1 (u.2 ++ exr) (cells + mc) (slots + ms) (pc + 3) lv (.int r :: rest)) : G p l e R s m args below meth c D E A nL Q σ ex cells slots (pc) lv (st0) :=
  g_af (exc := []) (exr := exr) (wr := []) C [] isR rfl hR rfl hnR (fun _ _ h => absurd h (by simp)) (fun _ h => absurd h (by simp)) (fun _ h => absurd h (by simp)) (a := As.toArray) (rest := rest) (fun H locs ls hw hs hl => va_runS (As := As) (rest := rest) ⟨C.1, C.2.1, C.2.2.2.2.1, C.2.2.1, C.2.2.2.1⟩ (hM H.size) ⟨(gcB C hwl hcd hini hlk hsg hrm hRm), C.2.2.2.1 _ hstat⟩ ⟨cPh_blind, fun U hU hW => ⟨⟨rfl, by rw [hU], by rw [hU]; exact wld_mono (wld_sub hw [] rfl rfl) (fun _ _ _ _ _ _ => trivial), va_K.moved hW.alike C.2.2.2.2.2.2.1, eV_call C hw hs (fun q h => by simp at h) hEv h3 hU hW⟩, hN.warm hW⟩⟩ rfl hn hl.1 hst (by show 2 * 0 + _ ≤ 8; omega) hd hf) (fun v u hp hx => by obtain ⟨r, rfl, hp⟩ := hp; exact kk r u hp hx)

end LWR2
