/-! THE CLAIM OUT OF ONE WALK OF THE LAW'S BODY. Your part is whole_start (and what it stands on); all else here is the same for every law, but numbers. -/
def R_law : String := "TradeLineLaw"
def lw_P (b : Addr) (xs : List Int32) (args : Array Value) (s : State) : Prop := args = #[.ref b] ∧ s.IntsAt b xs ∧ xs.length ≤ 2560 ∧ (Jvm.Cond.and given_1 narrow_1).before args s = true
def lw_Q (_ : Array Value) (s : State) (o : Outcome) (t : State) : Prop := o = .returned (some (.int 1)) ∧ Framed s o t [] room_1.cells room_1.slots
def lw_Z (below : List Frame) (a : Array Value) (s : State) : State → Prop := fun t => ∃ o, t.status = .running ∧ Ended t below o ∧ lw_Q a s o t
/-- the law's own end, with 1 on the stack, nothing written that was there before, its room as the claim has it -/
theorem lw_ret {p : Program} {l : Launch} {e : Env} {s : State} {m : MethodId} {below : List Frame} {meth : Method} {c : Code} {b : Nat} (hx : p.tables.exec = Jvm.exec) (hb : c.code = code) (hr : meth.sig.returnType = ret) (hlocks : meth.locks = false) {pc : Nat} {H : Heap} {ls : Array Slot} (hdg : decode code pc = .ok (.ireturn, 1)) : W p l e room_1 s m #[Value.ref b] below meth c H [] room_1.cells room_1.slots (lw_Z below #[Value.ref b] s) (F0 m pc ls [.int 1]) := by
  intro T hT X
  obtain ⟨fs, hret, hrun, hended, hW, hframe⟩ := X.leave (v := some (.int 1)) (hlocks := hlocks) (fun h => by rw [hr] at h; cases h)
  have hmeth' : T.vm.method? m = some meth := X.method'
  refine ⟨T.setFrames fs, ?_, .returned (some (.int 1)), hrun, hended, rfl, ⟨_, rfl⟩, hW, hframe⟩
  jvm_step X.here [X.here.top, hx, hb, hdg, hmeth', hr, ret, narrow_b1]
  (try refine ⟨rfl, ?_⟩); (try refine ⟨rfl, ?_⟩)
  first | (intro acts; rw [hret _ acts rfl rfl rfl]) | rw [hret _ _ rfl rfl rfl]
  exact Steps.refl _
/-- what holds at the law's entry: the machine, the code, the tables' words (any of lw_tbl by 'hts w (by decide +kernel)'), the script of L ints xs at the cell b, what the Statement gives of the start (any of its parts by flat_of_before) -/
def lw_At (p : Program) (s : State) (m : MethodId) (meth : Method) (c : Code) (b L : Nat) (xs : Nat → Int32) : Prop :=
  p.tables.exec = Jvm.exec ∧ c.code = code ∧ meth.sig.returnType = ret ∧ c.maxLocals = 7 ∧ s.vm.findClass R_law = some m.cls ∧ (∀ w ∈ lw_tbl, w.before #[Value.ref b] s = true) ∧ va_X b L xs s s.heap ∧ b < s.heap.size ∧ meth.locks = false ∧ (Jvm.Cond.and given_1 narrow_1).before #[Value.ref b] s = true
theorem w_end {p : Program} {l : Launch} {e : Env} {s : State} {m : MethodId} {below : List Frame} {meth : Method} {c : Code} {D : va_G} {E : Nat → ClassId} {b : Nat} (C : cx p s m #[Value.ref b] meth c D E (fun q => s.heap.size ≤ q) cL_law 7 "TradeLineLaw") (hr : meth.sig.returnType = ret) {σ : RS} {ex : va_W} {cells slots : Nat} {lv : List (Nat × Value)} (h1 : cells ≤ 299000) (h2 : slots ≤ 3090000) : G p l e room_1 s m #[Value.ref b] below meth c D E (fun q => s.heap.size ≤ q) 7 (lw_Z below #[Value.ref b] s) σ ex cells slots 2221 lv [] := fun H locs ls hw hs hl =>
  lv_iconst (v := 1) C.1 C.2.1 dL_law_2221 (by decide) (va_forget (fun q hq => hs.2.2 q hq) (W.widen (Nat.le_trans h1 (Nat.le_of_ble_eq_true rfl)) (Nat.le_trans h2 (Nat.le_of_ble_eq_true rfl)) (lw_ret C.1 C.2.1 hr C.2.2.2.2.2.1 dL_law_2222)))
/-- the law's run, out of a pure run of both sides -/
theorem w_run {p : Program} {l : Launch} {e : Env} {s : State} {m : MethodId} {below : List Frame} {meth : Method} {c : Code} {D : va_G} {E : Nat → ClassId} {b : Nat} (C : cx p s m #[Value.ref b] meth c D E (fun q => s.heap.size ≤ q) cL_law 7 "TradeLineLaw") (hr : meth.sig.returnType = ret) {a30 a31 : Nat} {B : Nat × (Nat → Nat)} (hEv : eV a30 a31 B (fun q => s.heap.size ≤ q) s s.heap) (hN : vN s) (hl : l.stackTraces = false) (hbl : b < s.heap.size) {w L : Nat} {xs : Nat → Int32} (hL : L ≤ 2560) (hX : va_X b L xs s s.heap) (hp : lok w xs (L / 5) 0 ((c1μ, c1ν), c1a)) :
    G p l e room_1 s m #[Value.ref b] below meth c D E (fun q => s.heap.size ≤ q) 7 (lw_Z below #[Value.ref b] s) (c0S a30 a31) [] 0 0 0 [(0, .ref b)] [] :=
  w_begin C hEv (fun Ad h30 h31 => w_loop (c0 := 69) (s0 := 264223) (w := w) C hEv hN hl hX hbl (Nat.not_le.mpr hbl) hL (by decide) (by decide) (fun μ ν a Ad cells slots i g1 g2 => w_end C hr g1 g2) (L / 5) 0 0 c1μ c1ν c1a Ad c1_lwI ⟨h30, h31⟩ (by omega) (by omega) rfl (by decide) (by decide) hp)
