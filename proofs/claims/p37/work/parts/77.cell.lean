section RowsX
variable {p : Program} {l : Launch} {e : Env} {R : Room} {s : State} {m : MethodId} {args : Array Value} {below : List Frame} {meth : Method} {c : Code} {D : va_G} {E : Nat → ClassId} {A : Nat → Prop} {cc : ByteArray} {nL : Nat} {own : String} {Q : State → Prop}
variable {σ : RS} {ex : va_W} {cells slots pc : Nat} {lv : List (Nat × Value)} {rest : List Value}
theorem g_ialdX (C : cx p s m args meth c D E A cc nL own) {b L : Nat} {xs : Nat → Int32} (hX : va_X b L xs s s.heap) (hbl : b < s.heap.size) (hbA : ¬ A b) {n : Int32} (hin : vp_in n L) (hd : decode cc pc = .ok (.iaload, 1)) (kk : G p l e R s m args below meth c D E A nL Q σ ex cells slots (pc + 1) lv (.int (xs n.toNatClampNeg) :: rest)) : G p l e R s m args below meth c D E A nL Q σ ex cells slots (pc) lv (.int n :: .ref b :: rest) := fun H locs ls hw hs hl =>
  va_sld C.1 C.2.1 hX hbl hbA hs hin hd (kk H locs ls hw hs hl)
theorem g_alenX (C : cx p s m args meth c D E A cc nL own) {b L : Nat} {xs : Nat → Int32} (hX : va_X b L xs s s.heap) (hbl : b < s.heap.size) (hbA : ¬ A b) {v : Int32} (hv : Int32.ofNat L = v) (hd : decode cc pc = .ok (.arraylength, 1)) (kk : G p l e R s m args below meth c D E A nL Q σ ex cells slots (pc + 1) lv (.int v :: rest)) : G p l e R s m args below meth c D E A nL Q σ ex cells slots (pc) lv (.ref b :: rest) := fun H locs ls hw hs hl => by
  subst hv
  exact va_slen C.1 C.2.1 hX hbl hbA hs hd (kk H locs ls hw hs hl)
end RowsX
/-- the script lies at b, apart from all live things -/
def cPX (D : va_G) (E : Nat → ClassId) (sz : Nat) (b L : Nat) (xs : Nat → Int32) (σ : RS) (av : List Value) : Array Value → State → Prop := va_Pc av (fun U => U.heap.size = sz ∧ wld D E (fun _ => True) σ [] U.heap ∧ va_K D vwCl (tysE E) U ∧ va_X b L xs U U.heap ∧ b < U.heap.size ∧ ¬ Aof σ [] U.heap.size b)
theorem cPX_blind {D : va_G} {E : Nat → ClassId} {sz b L : Nat} {xs : Nat → Int32} {σ : RS} {av : List Value} : FrameBlind (cPX D E sz b L xs σ av) := fun a U g mk q => by
  obtain ⟨q0, q1, q2, q3, q4, q5, q6⟩ := q
  exact ⟨q0, q1, q2, va_K.moved (u := U) (U := U.calling g mk a) (Vm.Alike.refl U.vm) q3, va_X.moved (u := U) (U := U.calling g mk a) (Vm.Alike.refl U.vm) q4, q5, q6⟩
section CellR
variable {p : Program} {l : Launch} {e : Env} {R : Room} {s : State} {m : MethodId} {args : Array Value} {below : List Frame} {meth : Method} {c : Code} {D : va_G} {E : Nat → ClassId} {A : Nat → Prop} {cc : ByteArray} {nL : Nat} {own : String} {Q : State → Prop}
variable {σ : RS} {ex : va_W} {cells slots pc : Nat} {lv : List (Nat × Value)} {rest : List Value}
variable {mc ms maxL n index : Nat} {y : MethodName} {bytes : ByteArray} {ws : List Cond} {rm : Room} {exr : va_W} {st0 : List Value} {b L : Nat} {xs : Nat → Int32} {Qc : Array Value → State → Outcome → State → Prop}
theorem g_ofX {sz : Nat} {av : List Value} {ret : Option FieldType} (hy : plainName y.cls = true) (hyo : y.cls = own) (hw : ws = Cond.code y cc maxL ret :: GT) (hle : (lg_sl av).length ≤ maxL)
    (body : ∀ p e s m (args : Array Value) below meth c, cx p s m args meth c D E (Aof σ [] s.heap.size) cc maxL own → meth.sig.returnType = ret → s.heap.size = sz → va_X b L xs s s.heap → b < s.heap.size → ¬ Aof σ [] s.heap.size b →
      G p l e rm s m args below meth c D E (Aof σ [] s.heap.size) maxL (MQ below Qc args s mc ms (Aof σ [] s.heap.size)) σ [] 0 0 0 (lv_args 0 av) []) : Met l y ws rm (cPX D E sz b L xs σ av) Qc mc ms (Aof σ [] sz) := by
  refine Met.ofW (cc := cc) (maxL := maxL) (ret := ret) hy hw ?_
  intro p e s m args below meth c s₁ B hml hv
  obtain ⟨rfl, hsz, hW, hK, hX, hbl, hbA⟩ := hv
  have hown : s.vm.findClass own = some m.cls := by rw [← hyo]; exact findClass_of_methodNamed B.named
  have hA : ∀ q, s.heap.size ≤ q → Aof σ [] s.heap.size q := fun q h => Or.inr (Or.inr h)
  have hl := lv_entry av (n := maxL) hle
  rw [lg_entry_eq]
  generalize (lg_sl av ++ List.replicate (maxL - (lg_sl av).length) Slot.unset).toArray = ls at hl ⊢
  subst hsz
  exact body p e s m _ below meth c ⟨B.exec, B.bytes, hown, fun w h => atoms_spec (ws := ws) B.pre w (by rw [hw]; exact List.mem_cons_of_mem _ h), hml, B.notSynchronized, hK, hA⟩ B.returns rfl hX hbl hbA s.heap [] ls
    (wld_mono hW (fun k i hl h1 h2 _ => Or.inl ⟨k, i, hl, h1, h2, rfl⟩)) va_S.rf hl

theorem g_cSX (C : cx p s m args meth c D E A cc nL own) (hX : va_X b L xs s s.heap) (hbl : b < s.heap.size) (hbA : ¬ A b) {post0 : Int32 → RS × va_W → Prop} {ret : Option FieldType} (As rest : List Value) (hst : st0 = As.reverse ++ rest) (hn : As.length = n) (isR : List Nat) (hR : isR.map (fun i => ex[i]?) = exr.map some) (hnR : va_nd isR = true) (hM : ∀ sz, Met l y ws rm (cPX D E sz b L xs σ As) (cQ D E sz σ [] (pI post0)) mc ms (Aof σ [] sz)) (hwl : ws = Cond.code y bytes maxL ret :: GT) (hcd : Cond.code y bytes maxL ret ∈ GT) (hini : Cond.initialized y.cls ∈ GT) (hlk : Cond.methodLink own index y ∈ GT) (hstat : Cond.static y ∈ GT) (hsg : y.cls ≠ "java/lang/invoke/MethodHandle" ∧ y.cls ≠ "java/lang/invoke/VarHandle" ∧ (parseMethodDescriptor y.desc).map (fun d => d.parameters.length) = some n) (hrm : rm.cells = mc ∧ rm.slots = ms) (hRm : rm.frames + 1 ≤ R.frames ∧ 8 + (maxL + 11) + rm.locals ≤ R.locals) (hrest : (rest.map fun v => v.category).sum ≤ 8) (hd : decode cc pc = .ok (.invokestatic index, 3)) (hf : cells + mc ≤ R.cells ∧ slots + ms ≤ R.slots) (kk : ∀ (r : Int32) (u : RS × va_W), post0 r u → (∀ (j : Nat) x, u.2[j]? = some x → A x.1 ∧ (x.1 ∈ ([] : List Nat) ∨ s.heap.size ≤ x.1)) → G p l e R s m args below meth c D E A nL Q u.1 (u.2 ++ exr) (cells + mc) (slots + ms) (pc + 3) lv (.int r :: rest)) : G p l e R s m args below meth c D E A nL Q σ ex cells slots (pc) lv (st0) :=
  g_af (exc := []) (exr := exr) (wr := []) C [] isR rfl hR rfl hnR (fun _ _ h => absurd h (by simp)) (fun _ h => absurd h (by simp)) (fun _ h => absurd h (by simp)) (a := As.toArray) (rest := rest) (fun H locs ls hw hs hl => va_runS (As := As) (rest := rest) ⟨C.1, C.2.1, C.2.2.2.2.1, C.2.2.1, C.2.2.2.1⟩ (hM H.size) ⟨(gcB C hwl hcd hini hlk hsg hrm hRm), C.2.2.2.1 _ hstat⟩ ⟨cPX_blind, fun U hU hW => ⟨rfl, by rw [hU], by rw [hU]; exact wld_mono (wld_sub hw [] rfl rfl) (fun _ _ _ _ _ _ => trivial), va_K.moved hW.alike C.2.2.2.2.2.2.1, by rw [hU]; exact (va_X.moved hW.alike hX).kept (hs.2.1 b hbl hbA), by rw [hU]; exact Nat.lt_of_lt_of_le hbl hs.1, by rw [hU]; exact fun z => hbA (Aof_in hw hs C.2.2.2.2.2.2.2 (wr := []) (fun q h => by simp at h) b z)⟩⟩ rfl hn hl.1 hst (by show 2 * 0 + _ ≤ 8; omega) hd hf) (fun v u hp hx => by obtain ⟨r, rfl, hp⟩ := hp; exact kk r u hp hx)

end CellR
/-- an int of the script, or what the law takes behind its end -/
def f_L_cell (L : Nat) (xs : Nat → Int32) (k : Int32) : Option Int32 := if Int32.ofNat L ≤ k then some ((1205585385 : Int32) * (k + (8 : Int32))) else bif ixB k L then some (xs k.toNatClampNeg) else none
set_option maxHeartbeats 4000000 in
set_option maxRecDepth 100000 in
theorem c_L_cell (l : Launch) (μ : MP) (ν : NC) (a : AS) (Ad : Nat → Nat → Nat) (b L : Nat) (xs : Nat → Int32) (k r0 : Int32) (h : f_L_cell L xs k = some r0) : ∀ D E sz, Met l yL_cell gwL_cell ({ frames := 0, cells := 0, slots := 0, locals := 0 } : Room) (cPX D E sz b L xs (zS μ ν a Ad) [.ref b, .int k]) (cQ D E sz (zS μ ν a Ad) [] (pI (fun r u => r = r0 ∧ u = (zS μ ν a Ad, [])))) 0 0 (Aof (zS μ ν a Ad) [] sz) := by
  intro D E sz
  unfold f_L_cell at h
  refine g_ofX (cc := cL_cell) (maxL := 2) (ret := (some .int)) (own := "TradeLineLaw") (by decide) rfl rfl (Nat.le_of_ble_eq_true rfl) ?_
  intro p e s m args below meth c C hr hz hX hbl hbA
  refine g_lv (lv' := [(0, .ref b), (1, .int k)]) [0, 1] rfl ?_
  refine g_iload_n C dL_cell_0 rfl 1 rfl ?_
  refine g_aload_n C dL_cell_1 rfl 0 rfl ?_
  refine g_alenX C hX hbl hbA rfl dL_cell_2 ?_
  refine g_icmp_ge (tgt := 12) C dL_cell_3 (by decide) (fun c3 => ?_) (fun c3 => ?_)
  · replace h := (if_pos c3).symm.trans h
    refine g_ldc (v := 1205585385) C gw_207 dL_cell_12 ?_
    refine g_iload_n C dL_cell_14 rfl 1 rfl ?_
    refine g_bipush (v := 8) C dL_cell_15 (by decide) ?_
    refine g_iadd C dL_cell_17 ?_
    refine g_imul C dL_cell_18 ?_
    exact g_iret C hr rfl hz ⟨rfl, rfl, fun _ => rfl, fun _ => rfl⟩ ⟨Option.some.inj h, rfl⟩ (fun j x h => by simp at h) dL_cell_19
  · replace h := (if_neg c3).symm.trans h
    obtain ⟨g1, h⟩ := of_guard h
    refine g_aload_n C dL_cell_6 rfl 0 rfl ?_
    refine g_iload_n C dL_cell_7 rfl 1 rfl ?_
    refine g_ialdX C hX hbl hbA (ixB_in g1) dL_cell_8 ?_
    refine g_goto (tgt := 19) C dL_cell_9 (by decide) ?_
    exact g_iret C hr rfl hz ⟨rfl, rfl, fun _ => rfl, fun _ => rfl⟩ ⟨Option.some.inj h, rfl⟩ (fun j x h => by simp at h) dL_cell_19
