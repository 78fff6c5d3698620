/-! THROWING. -/
def exN : Nat → String
  | 1 => "java/lang/IndexOutOfBoundsException"
  | 2 => "java/lang/IllegalArgumentException"
  | _ => "java/lang/IllegalStateException"
/-- what a method leaves that throws: all as it was, a new cell beside it -/
def cX (D : va_G) (E : Nat → ClassId) (sz : Nat) (σ : RS) (n : Nat) : String → State → State → Prop := fun En st t => En = exN n ∧ cB D E sz σ [] (σ, []) t ∧ va_F (Aof σ [] sz) st t
theorem wld_grow {D : va_G} {E : Nat → ClassId} {A : Nat → Prop} {σ : RS} {ex : va_W} {H H1 : Heap} (h : wld D E A σ ex H) (hk : ∀ q : Nat, q < H.size → H1[q]? = H[q]?) : wld D E A σ ex H1 :=
  ⟨fun k i hl => ⟨(h.1 k i hl).1.kept (hk _ (wld_lt h hl)), (h.1 k i hl).2⟩, h.2.1, fun j q hq => ⟨vat_kept (h.2.2.1 j q hq).1 (hk _ (h.2.2.1 j q hq).1.lt), (h.2.2.1 j q hq).2⟩, h.2.2.2⟩
theorem thr0 {α : Type} {f : Option (Nat × α)} {v : Nat × α} (h : f = some v) (e : v.1 = 0) : f = some (0, v.2) := by obtain ⟨n, x⟩ := v; subst e; exact h
theorem thrS {α : Type} {f : Option (Nat × α)} {v : Nat × α} {n : Nat} (h : f = some v) (e : v.1 = n + 1) : f = some (n + 1, v.2) := by obtain ⟨m, x⟩ := v; subst e; exact h
theorem of_thr {α : Type} {n : Nat} {x : Option (Nat × α)} {d r : α} (h : (bif eqB n 0 then x else some (n, d)) = some (0, r)) : n = 0 ∧ x = some (0, r) := by
  cases hb : eqB n 0 with
  | true => rw [hb] at h; exact ⟨of_decide_eq_true hb, h⟩
  | false =>
    rw [hb] at h
    exact absurd (show n = 0 from congrArg Prod.fst (Option.some.inj (show some (n, d) = some (0, r) from h))) (of_decide_eq_false hb)
theorem of_thx {α : Type} {n m : Nat} {x : Option (Nat × α)} {d r : α} (h : (bif eqB n 0 then x else some (n, d)) = some (m + 1, r)) : (n = 0 ∧ x = some (m + 1, r)) ∨ n = m + 1 := by
  cases hb : eqB n 0 with
  | true => rw [hb] at h; exact Or.inl ⟨of_decide_eq_true hb, h⟩
  | false => rw [hb] at h; exact Or.inr (congrArg Prod.fst (Option.some.inj (show some (n, d) = some (m + 1, r) from h)))
section XG
variable {p : Program} {l : Launch} {e : Env} {R : Room} {s : State} {m : MethodId} {args : Array Value} {below : List Frame} {meth : Method} {c : Code} {D : va_G} {E : Nat → ClassId} {A : Nat → Prop} {cc : ByteArray} {nL : Nat} {own : String} {Q : State → Prop}
variable {σ : RS} {ex : va_W} {cells slots pc : Nat} {lv : List (Nat × Value)} {rest : List Value}
variable {mc ms maxL n index : Nat} {y : MethodName} {bytes : ByteArray} {ws : List Cond} {rm : Room} {st0 : List Value} {B : Nat × (Nat → Nat)} {a30 a31 : Nat} {Qc : Array Value → State → Outcome → State → Prop}
/-- the start of a method that throws -/
theorem g_ofx {XC : String → State → State → Prop} {sz : Nat} {av : List Value} {ret : Option FieldType} (hy : plainName y.cls = true) (hyo : y.cls = own) (hw : ws = Cond.code y cc maxL ret :: GT) (hle : (lg_sl av).length ≤ maxL)
    (body : ∀ p e s m (args : Array Value) below meth c, cx p s m args meth c D E (Aof σ [] s.heap.size) cc maxL own → (∀ x ∈ c.exceptionTable.toList, False) → s.heap.size = sz → args = av.toArray → eV (rA σ 30 0) (rA σ 31 0) B (Aof σ [] s.heap.size) s s.heap →
      G p l e rm s m args below meth c D E (Aof σ [] s.heap.size) maxL (vx_MQ below Qc XC args s mc ms (Aof σ [] s.heap.size)) σ ex 0 0 0 (lv_args 0 av) []) : vx_Met l y ws rm (cPe D E sz B σ ex [] av) Qc XC mc ms (Aof σ [] sz) := by
  refine vx_ofW (cc := cc) (maxL := maxL) (ret := ret) hy hw ?_
  intro p e s m args below meth c s₁ B hml hT hv
  obtain ⟨rfl, hsz, hW, hK, hEv⟩ := hv
  have hown : s.vm.findClass own = some m.cls := by rw [← hyo]; exact findClass_of_methodNamed B.named
  have hA : ∀ q, s.heap.size ≤ q → Aof σ [] s.heap.size q := fun q h => Or.inr (Or.inr h)
  have hl := lv_entry av (n := maxL) hle
  rw [lg_entry_eq]
  generalize (lg_sl av ++ List.replicate (maxL - (lg_sl av).length) Slot.unset).toArray = ls at hl ⊢
  subst hsz
  exact body p e s m _ below meth c ⟨B.exec, B.bytes, hown, fun w h => atoms_spec (ws := ws) B.pre w (by rw [hw]; exact List.mem_cons_of_mem _ h), hml, B.notSynchronized, hK, hA⟩ hT rfl rfl hEv s.heap [] ls
    (wld_mono hW (fun k i hl h1 h2 _ => Or.inl ⟨k, i, hl, h1, h2, rfl⟩)) va_S.rf hl
theorem cX_of {σ0 : RS} {H : Heap} {locs : List Loc} {t : State} (C : cx p s m args meth c D E (Aof σ [] s.heap.size) cc nL own) (hw : wld D E (Aof σ [] s.heap.size) σ [] H) (hs : va_S (Aof σ [] s.heap.size) s.heap H locs) (hal : s.vm.Alike t.vm) (hz : H.size ≤ t.heap.size) (hk : ∀ q : Nat, q < H.size → t.heap[q]? = H[q]?) : cX D E s.heap.size σ n (exN n) s t :=
  ⟨rfl, ⟨wld_grow hw hk, va_K.moved hal C.2.2.2.2.2.2.1, stq_rfl σ, fun j x h => by simp at h⟩, Nat.le_trans hs.1 hz, fun q h1 h2 => (hk q (Nat.lt_of_lt_of_le h1 hs.1)).trans (hs.2.1 q h1 h2)⟩
def exW : List String := ["java/lang/RuntimeException", "java/lang/Exception"]
/-- new X(text), thrown -/
theorem g_thS {ik is ic : Nat} {text : String} (C : cx p s m args meth c D E (Aof σ [] s.heap.size) cc nL "TradeLine") (hEv : eV a30 a31 B (Aof σ [] s.heap.size) s s.heap) (hl : l.stackTraces = false) (hT : ∀ x ∈ c.exceptionTable.toList, False) {sz : Nat} (hz : s.heap.size = sz)
    (hcls : Bundle.fit (exN n) = true) (hk : Cond.classLink "TradeLine" ik (exN n) ∈ GT) (hini : Cond.initialized (exN n) ∈ GT) (hstr : (is, text) ∈ eS) (hat : ∀ w ∈ vx_atS "TradeLine" ic (exN n) exW, w ∈ GT ∨ w = .castable (exN n) (exN n) ∨ w ∈ eD.map Cond.declares) (hX : exN n ∈ eX) (hgood : ∀ w ∈ vx_atS "TradeLine" ic (exN n) exW, vx_ot w = true)
    (d0 : decode cc pc = .ok (.new ik, 3)) (d3 : decode cc (pc + 3) = .ok (.dup, 1)) (d4 : decode cc (pc + 4) = .ok (.ldc is, 2)) (d6 : decode cc (pc + 6) = .ok (.invokespecial ic, 3)) (d9 : decode cc (pc + 9) = .ok (.athrow, 1))
    (hRf : 6 ≤ R.frames) (hRl : (rest.map fun v => v.category).sum + 82 ≤ R.locals) (hRc : 1 ≤ R.cells) (hRs : 6 ≤ R.slots) : G p l e R s m args below meth c D E (Aof σ [] s.heap.size) nL (vx_MQ below Qc (cX D E sz σ n) args s 1 6 (Aof σ [] s.heap.size)) σ [] 0 0 pc lv rest := fun H locs ls hw hs hlv => by
  subst hz
  have hg : ∀ w ∈ GT, vx_ot w = true := fun w h => by unfold vx_ot; rw [(List.mem_filter.mp h).2, Bool.or_true]
  exact vx_throwS (names := exW) C.1 C.2.1 hl C.2.2.1 hcls (by decide) (C.2.2.2.1 _ hk) (C.2.2.2.1 _ hini) (hEv.2.2.2.2.2.2.2.2 _ hstr) (fun w h => (hat w h).elim (fun h => C.2.2.2.1 _ h) (fun h => h.elim (fun h => by rw [h]; exact (hEv.2.2.2.2.2.2.1 _ (List.mem_cons_self ..)).2.1 _ hX) (fun h => by obtain ⟨y, hy, rfl⟩ := List.mem_map.mp h; exact (hEv.2.2.2.2.2.2.1 _ (List.mem_cons_self ..)).2.2 _ hy))) (fun w h => by
      rcases List.mem_cons.mp h with rfl | h
      · exact hg _ hk
      · rcases List.mem_cons.mp h with rfl | h
        · exact hg _ hini
        · exact hgood w h) hEv.2.1 hEv.2.2.1 hs (by rw [C.2.2.2.2.1]; exact hlv.1) d0 d3 d4 d6 d9 (fun x h => (hT x h).elim) (by show 5 < R.frames; omega) (by show _ + 82 ≤ R.locals; omega) (by omega) (by omega) C.2.2.2.2.2.1 (fun t h1 h2 h3 => cX_of (σ0 := σ) C hw hs h1 h2 h3) hs.2.2 (Nat.le_refl _) (Nat.le_refl _)
theorem g_thW {ik is ic : Nat} {text : String} (C : cx p s m args meth c D E (Aof σ [] s.heap.size) cc nL "TradeLine") (hEv : eV a30 a31 B (Aof σ [] s.heap.size) s s.heap) (hl : l.stackTraces = false) (hT : ∀ x ∈ c.exceptionTable.toList, False) {sz : Nat} (hz : s.heap.size = sz)
    (hcls : Bundle.fit (exN n) = true) (hk : Cond.classLink "TradeLine" ik (exN n) ∈ GT) (hini : Cond.initialized (exN n) ∈ GT) (hstr : (is, text) ∈ eS) (hat : ∀ w ∈ vx_atS "TradeLine" ic (exN n) exW, w ∈ GT ∨ w = .castable (exN n) (exN n) ∨ w ∈ eD.map Cond.declares) (hX : exN n ∈ eX) (hgood : ∀ w ∈ vx_atS "TradeLine" ic (exN n) exW, vx_ot w = true)
    (d0 : decode cc pc = .ok (.new ik, 3)) (d3 : decode cc (pc + 3) = .ok (.dup, 1)) (d4 : decode cc (pc + 4) = .ok (.ldc_w is, 3)) (d6 : decode cc (pc + 7) = .ok (.invokespecial ic, 3)) (d9 : decode cc (pc + 10) = .ok (.athrow, 1))
    (hRf : 6 ≤ R.frames) (hRl : (rest.map fun v => v.category).sum + 82 ≤ R.locals) (hRc : 1 ≤ R.cells) (hRs : 6 ≤ R.slots) : G p l e R s m args below meth c D E (Aof σ [] s.heap.size) nL (vx_MQ below Qc (cX D E sz σ n) args s 1 6 (Aof σ [] s.heap.size)) σ [] 0 0 pc lv rest := fun H locs ls hw hs hlv => by
  subst hz
  have hg : ∀ w ∈ GT, vx_ot w = true := fun w h => by unfold vx_ot; rw [(List.mem_filter.mp h).2, Bool.or_true]
  exact vx_throwSW (names := exW) C.1 C.2.1 hl C.2.2.1 hcls (by decide) (C.2.2.2.1 _ hk) (C.2.2.2.1 _ hini) (hEv.2.2.2.2.2.2.2.2 _ hstr) (fun w h => (hat w h).elim (fun h => C.2.2.2.1 _ h) (fun h => h.elim (fun h => by rw [h]; exact (hEv.2.2.2.2.2.2.1 _ (List.mem_cons_self ..)).2.1 _ hX) (fun h => by obtain ⟨y, hy, rfl⟩ := List.mem_map.mp h; exact (hEv.2.2.2.2.2.2.1 _ (List.mem_cons_self ..)).2.2 _ hy))) (fun w h => by
      rcases List.mem_cons.mp h with rfl | h
      · exact hg _ hk
      · rcases List.mem_cons.mp h with rfl | h
        · exact hg _ hini
        · exact hgood w h) hEv.2.1 hEv.2.2.1 hs (by rw [C.2.2.2.2.1]; exact hlv.1) d0 d3 d4 d6 d9 (fun x h => (hT x h).elim) (by show 5 < R.frames; omega) (by show _ + 82 ≤ R.locals; omega) (by omega) (by omega) C.2.2.2.2.2.1 (fun t h1 h2 h3 => cX_of (σ0 := σ) C hw hs h1 h2 h3) hs.2.2 (Nat.le_refl _) (Nat.le_refl _)
/-- a call that throws, passed on -/
theorem g_xaf (C : cx p s m args meth c D E (Aof σ [] s.heap.size) cc nL own) (hT : ∀ x ∈ c.exceptionTable.toList, False) {sz : Nat} (hz : s.heap.size = sz) {a : Array Value}
    (hr : ∀ (H : Heap) (locs : List Loc) (ls : Array Slot), wld D E (Aof σ [] s.heap.size) σ [] H → va_S (Aof σ [] s.heap.size) s.heap H locs → lv_has ls nL lv → vx_Run p l e R s m args below meth c H locs 0 0 1 6 (F0 m pc ls st0) rest (fun _ _ _ => False) (cX D E H.size σ n) (Aof σ [] H.size)) :
    G p l e R s m args below meth c D E (Aof σ [] s.heap.size) nL (vx_MQ below Qc (cX D E sz σ n) args s 1 6 (Aof σ [] s.heap.size)) σ [] 0 0 pc lv st0 := fun H locs ls hw hs hlv => by
  subst hz
  intro T hTT X
  have hA := C.2.2.2.2.2.2.2
  have hF := Aof_in hw hs hA (wr := []) (fun q h => by simp at h)
  rcases hr H locs ls hw hs hlv T hTT X with ⟨v, st₀, t, T', L, h0, X', hL, e1, e2, hfalse, st⟩ | ⟨q, st₀, t, T', L, En, ce, h0, X', hL, e1, e2, ⟨hEn, hB, hz2, hk⟩, hce, hcv, hcl, st⟩
  · exact hfalse.elim
  · rw [h0] at hz2 hk
    have hw2 := wld_back (exc := []) (exr := []) hw hs hA (wr := []) (fun q h => by simp at h) [] [] rfl rfl rfl (fun _ h => by simp at h) (fun q h => by simp at h) e1.symm hB (fun q h1 h2 => by rw [e1]; exact hk q h1 h2)
    have hs2 : va_S (Aof σ [] s.heap.size) s.heap T'.heap (locs ++ L) := ⟨Nat.le_trans hs.1 (by rw [e1]; exact hz2), fun q h1 h2 => by rw [e1, hk q (Nat.lt_of_lt_of_le h1 hs.1) (fun z => h2 (hF q z))]; exact hs.2.1 q h1 h2, fun q hq => by
      rcases List.mem_append.mp hq with h | h
      · exact hs.2.2 q h
      · exact hF _ (hL q h)⟩
    obtain ⟨t2, a1, b1⟩ := vx_out (R := R) (l := l) (below := below) (args := args) (XC := cX D E s.heap.size σ n) (Qc := Qc) (mc := 1) (ms := 6) (free := Aof σ [] s.heap.size) (cells := 0 + 1) (slots := 0 + 6) (pc := pc) (ls := ls) (rest := rest) (E := En) (ce := ce) (q := q) (locs := locs ++ L) (H := T'.heap) (p := p) (e := e) (m := m) (fun x h => (hT x h).elim) C.2.2.2.2.2.1 (by rw [e1]; exact hce) hcv hcl (fun t3 h3 h4 => by
        rw [hEn]
        exact ⟨rfl, ⟨by rw [h3]; exact wld_sub hw2 [] rfl rfl, va_K.moved h4 C.2.2.2.2.2.2.1, stq_rfl σ, fun j x h => by simp at h⟩, hs2.F h3⟩) hs2.2.2 (Nat.le_refl _) (Nat.le_refl _) T' rfl X'
    exact ⟨t2, st.trans a1, b1⟩
variable {ret : Option FieldType}
theorem g_xV (C : cx p s m args meth c D E (Aof σ [] s.heap.size) cc nL own) (hEv : eV a30 a31 B (Aof σ [] s.heap.size) s s.heap) (h3 : rA σ 30 0 = a30 ∧ rA σ 31 0 = a31) (hT : ∀ x ∈ c.exceptionTable.toList, False) {sz : Nat} (hz : s.heap.size = sz) {b : Nat} (As rest : List Value) (hst : st0 = As.reverse ++ .ref b :: rest) (hn : As.length = index) {ix : Nat} (hM : ∀ sz, vx_Met l y ws rm (cPe D E sz B σ [] [] (.ref b :: As)) (fun _ _ _ _ => False) (cX D E sz σ n) 1 6 (Aof σ [] sz)) (hwl : ws = Cond.code y bytes maxL ret :: GT) (hcd : Cond.code y bytes maxL ret ∈ GT) (hini : Cond.initialized y.cls ∈ GT) (hlk : Cond.methodLink own ix y ∈ GT) (hins : Cond.instanceMethod y ∈ GT) (hsel : Cond.selects y.cls y y ∈ GT) (hsg : y.cls ≠ "java/lang/invoke/MethodHandle" ∧ y.cls ≠ "java/lang/invoke/VarHandle" ∧ (parseMethodDescriptor y.desc).map (fun d => d.parameters.length) = some index) (hrm : rm.cells = 1 ∧ rm.slots = 6) (hRm : rm.frames + 1 ≤ R.frames ∧ 8 + (maxL + 11) + rm.locals ≤ R.locals) (hb : rcv σ [] y.cls b) (hrest : (rest.map fun v => v.category).sum ≤ 8) (hd : decode cc pc = .ok (.invokevirtual ix, 3)) (hf : 1 ≤ R.cells ∧ 6 ≤ R.slots) : G p l e R s m args below meth c D E (Aof σ [] s.heap.size) nL (vx_MQ below Qc (cX D E sz σ n) args s 1 6 (Aof σ [] s.heap.size)) σ [] 0 0 pc lv st0 :=
  g_xaf C hT hz (a := (.ref b :: As : List Value).toArray) (rest := rest) (fun H locs ls hw hs hl => vx_runV (As := As) (rest := rest) ⟨C.1, C.2.1, C.2.2.2.2.1, C.2.2.1, C.2.2.2.1⟩ (hM H.size) ⟨(gcB C hwl hcd hini hlk hsg hrm hRm), C.2.2.2.1 _ hins, C.2.2.2.1 _ hsel⟩ ⟨cPe_blind, rcv_at hw C.2.2.2.2.2.2.1 hb, fun U hU hW => ⟨rfl, by rw [hU], by rw [hU]; exact wld_mono hw (fun _ _ _ _ _ _ => trivial), va_K.moved hW.alike C.2.2.2.2.2.2.1, eV_call C hw hs (fun q h => by simp at h) hEv h3 hU hW⟩⟩ rfl hn hl.1 hst (by show 2 * 0 + _ ≤ 8; omega) hd (by omega))
theorem g_xS (C : cx p s m args meth c D E (Aof σ [] s.heap.size) cc nL own) (hEv : eV a30 a31 B (Aof σ [] s.heap.size) s s.heap) (h3 : rA σ 30 0 = a30 ∧ rA σ 31 0 = a31) (hT : ∀ x ∈ c.exceptionTable.toList, False) {sz : Nat} (hz : s.heap.size = sz) (As rest : List Value) (hst : st0 = As.reverse ++ rest) (hn : As.length = index) {ix : Nat} (hM : ∀ sz, vx_Met l y ws rm (cPe D E sz B σ [] [] As) (fun _ _ _ _ => False) (cX D E sz σ n) 1 6 (Aof σ [] sz)) (hwl : ws = Cond.code y bytes maxL ret :: GT) (hcd : Cond.code y bytes maxL ret ∈ GT) (hini : Cond.initialized y.cls ∈ GT) (hlk : Cond.methodLink own ix y ∈ GT) (hstat : Cond.static y ∈ GT) (hsg : y.cls ≠ "java/lang/invoke/MethodHandle" ∧ y.cls ≠ "java/lang/invoke/VarHandle" ∧ (parseMethodDescriptor y.desc).map (fun d => d.parameters.length) = some index) (hrm : rm.cells = 1 ∧ rm.slots = 6) (hRm : rm.frames + 1 ≤ R.frames ∧ 8 + (maxL + 11) + rm.locals ≤ R.locals) (hrest : (rest.map fun v => v.category).sum ≤ 8) (hd : decode cc pc = .ok (.invokestatic ix, 3)) (hf : 1 ≤ R.cells ∧ 6 ≤ R.slots) : G p l e R s m args below meth c D E (Aof σ [] s.heap.size) nL (vx_MQ below Qc (cX D E sz σ n) args s 1 6 (Aof σ [] s.heap.size)) σ [] 0 0 pc lv st0 :=
  g_xaf C hT hz (a := As.toArray) (rest := rest) (fun H locs ls hw hs hl => vx_runS (As := As) (rest := rest) ⟨C.1, C.2.1, C.2.2.2.2.1, C.2.2.1, C.2.2.2.1⟩ (hM H.size) ⟨(gcB C hwl hcd hini hlk hsg hrm hRm), C.2.2.2.1 _ hstat⟩ ⟨cPe_blind, fun U hU hW => ⟨rfl, by rw [hU], by rw [hU]; exact wld_mono hw (fun _ _ _ _ _ _ => trivial), va_K.moved hW.alike C.2.2.2.2.2.2.1, eV_call C hw hs (fun q h => by simp at h) hEv h3 hU hW⟩⟩ rfl hn hl.1 hst (by show 2 * 0 + _ ≤ 8; omega) hd (by omega))
end XG
theorem exA_1 : ∀ w ∈ vx_atS "TradeLine" 134 (exN 1) exW, w ∈ GT ∨ w = .castable (exN 1) (exN 1) ∨ w ∈ eD.map Cond.declares := by decide +kernel
theorem exG_1 : ∀ w ∈ vx_atS "TradeLine" 134 (exN 1) exW, vx_ot w = true := by decide +kernel
theorem exA_3 : ∀ w ∈ vx_atS "TradeLine" 55 (exN 3) exW, w ∈ GT ∨ w = .castable (exN 3) (exN 3) ∨ w ∈ eD.map Cond.declares := by decide +kernel
theorem exG_3 : ∀ w ∈ vx_atS "TradeLine" 55 (exN 3) exW, vx_ot w = true := by decide +kernel
theorem exA_2 : ∀ w ∈ vx_atS "TradeLine" 97 (exN 2) exW, w ∈ GT ∨ w = .castable (exN 2) (exN 2) ∨ w ∈ eD.map Cond.declares := by decide +kernel
theorem exG_2 : ∀ w ∈ vx_atS "TradeLine" 97 (exN 2) exW, vx_ot w = true := by decide +kernel
theorem mx_cl2 (M : Nat → Nat → Nat → Int32) (a : AS) {k : Nat} (i : Nat) (f : Nat → Int32) (h : Nat.ble k 39 = true) : up2 (mx M a) k i f = mx (up2 M k i f) a := by
  have h1 := Nat.le_of_ble_eq_true h
  funext k' i'
  by_cases hc : k' = k ∧ i' = i
  · obtain ⟨rfl, rfl⟩ := hc
    rw [up2_s, mx_lo _ a h, up2_s]
  · rw [up2_n _ _ hc]
    unfold mx
    cases hb : (Nat.ble 40 k' && Nat.ble k' 89 && Nat.beq i' 0) with
    | true => rfl
    | false =>
      show M k' i' = up2 M k i f k' i'
      rw [up2_n _ _ hc]
noncomputable def f_X0_clear (w : Nat) (μ : MP) (ν : NC) (i0 : Nat) : Option (MP × Int32) := bif decide (i0 < ν.2 3) && decide (i0 < ν.2 13) && decide (ν.1 13 i0 < 1073741824) then some ((up3 (up2 μ.1 13 i0 (fl (μ.1 13 i0) 0 (ν.1 13 i0))) 3 i0 1 0, μ.2), 0) else none
theorem c_X0_clear (l : Launch) (μ : MP) (ν : NC) (a : AS) (Ad : Nat → Nat → Nat) (w : Nat) (i0 : Nat) (r0 : MP × Int32) (h : f_X0_clear w μ ν i0 = some r0) : ∀ D E sz, Met l yX0_clear gwX0_clear ({ frames := 1, cells := 0, slots := 0, locals := 23 } : Room) (cP D E sz (zS μ ν a Ad) [] [.ref (Ad 3 i0)]) (cQ D E sz (zS μ ν a Ad) [] (pV (fun u => u = (zS r0.1 ν a Ad, [])))) (0) (0) (Aof (zS μ ν a Ad) [] sz) := by
  obtain ⟨g1, h⟩ := of_guard h
  obtain rfl := Option.some.inj h
  simp only [Bool.and_eq_true, decide_eq_true_eq] at g1
  obtain ⟨⟨g1, g2⟩, g3⟩ := g1
  have hk := k_X0_clear l (zS μ ν a Ad) i0 ⟨g1, fun e => absurd e (by decide)⟩ ⟨g2, fun e => absurd e (by decide)⟩ (by show ν.1 13 i0 < 2 ^ 30; omega)
  have e4 : sM (sR (zS μ ν a Ad) 13 i0 (fl (rM (zS μ ν a Ad) 13 i0) 0 (rN (zS μ ν a Ad) 13 i0))) 3 i0 1 0 = zS (up3 (up2 μ.1 13 i0 (fl (μ.1 13 i0) 0 (ν.1 13 i0))) 3 i0 1 0, μ.2) ν a Ad := by
    show (up3 (up2 (mx μ.1 a) 13 i0 (fl (mx μ.1 a 13 i0) 0 (ν.1 13 i0))) 3 i0 1 0, ν.1, μ.2, ν.2, Ad) = _
    rw [mx_lo μ.1 a (show Nat.ble 13 39 = true from rfl), mx_cl2 _ _ _ _ rfl, mx_cl _ _ _ _ _ rfl]
  rw [e4] at hk
  exact hk
