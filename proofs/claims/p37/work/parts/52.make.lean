/-! COSTS are two registers of their own (lengths of kind 98): cells, slots. -/
def kc (ν : NC) : Nat := ν.1 98 0
def ks (ν : NC) : Nat := ν.1 98 1
def chg (ν : NC) (c s : Nat) : NC := (up2 (up2 ν.1 98 0 (ν.1 98 0 + c)) 98 1 (ν.1 98 1 + s), ν.2)
theorem kc_chg (ν : NC) (c s : Nat) : kc (chg ν c s) = kc ν + c := by
  show up2 (up2 ν.1 98 0 (ν.1 98 0 + c)) 98 1 (ν.1 98 1 + s) 98 0 = ν.1 98 0 + c
  rw [up2_n _ _ (by decide), up2_s]
theorem ks_chg (ν : NC) (c s : Nat) : ks (chg ν c s) = ks ν + s := up2_s (up2 ν.1 98 0 (ν.1 98 0 + c)) 98 1 (ν.1 98 1 + s)
/-- only more: counts, costs; what lies behind 30 stays -/
def mn (ν ν' : NC) : Prop := (∀ k, ν.2 k ≤ ν'.2 k) ∧ kc ν ≤ kc ν' ∧ ks ν ≤ ks ν' ∧ ∀ k, 30 ≤ k → k ≠ 98 → ν'.2 k = ν.2 k ∧ ν'.1 k = ν.1 k
theorem mn_rfl (ν : NC) : mn ν ν := ⟨fun _ => Nat.le_refl _, Nat.le_refl _, Nat.le_refl _, fun _ _ _ => ⟨rfl, rfl⟩⟩
theorem mn_trans {a b c : NC} (h : mn a b) (k : mn b c) : mn a c := ⟨fun i => Nat.le_trans (h.1 i) (k.1 i), Nat.le_trans h.2.1 k.2.1, Nat.le_trans h.2.2.1 k.2.2.1, fun i h1 h2 => ⟨(k.2.2.2 i h1 h2).1.trans (h.2.2.2 i h1 h2).1, (k.2.2.2 i h1 h2).2.trans (h.2.2.2 i h1 h2).2⟩⟩
theorem up2_k {α : Type} (f : Nat → Nat → α) {k i k' : Nat} (v : α) (h : k' ≠ k) : up2 f k i v k' = f k' := up1_n _ _ h
theorem mn_chg (ν : NC) (c s : Nat) : mn ν (chg ν c s) := ⟨fun _ => Nat.le_refl _, by rw [kc_chg]; omega, by rw [ks_chg]; omega, fun k _ h2 => ⟨rfl, by show up2 (up2 ν.1 98 0 _) 98 1 _ k = _; rw [up2_k _ _ h2, up2_k _ _ h2]⟩⟩
theorem mn_N {ν : NC} {k i v : Nat} (hk : k < 30) : mn ν (up2 ν.1 k i v, ν.2) := ⟨fun _ => Nat.le_refl _, Nat.le_of_eq (congrFun (up2_k ν.1 v (show 98 ≠ k by omega)) 0).symm, Nat.le_of_eq (congrFun (up2_k ν.1 v (show 98 ≠ k by omega)) 1).symm, fun k' h1 _ => ⟨rfl, up2_k _ _ (by omega)⟩⟩
theorem mn_C {ν : NC} {k v : Nat} (hk : k < 30) (hv : ν.2 k ≤ v) : mn ν (ν.1, up1 ν.2 k v) := ⟨fun j => by
    show _ ≤ up1 ν.2 k v j
    unfold up1
    split
    · rename_i h; rw [h]; exact hv
    · exact Nat.le_refl _, Nat.le_refl _, Nat.le_refl _, fun k' h1 _ => ⟨up1_n _ _ (by omega), rfl⟩⟩
/-- kinds whose things keep their addresses -/
def fxk (k : Nat) : Bool := !(Nat.beq k 5) && !(Nat.ble 10 k && Nat.ble k 13)
def kp (ν : NC) (A A' : Nat → Nat → Nat) : Prop := (∀ k i, fxk k = true → i < ν.2 k → A' k i = A k i) ∧ (∀ i, A' 30 i = A 30 i) ∧ ∀ i, A' 31 i = A 31 i
theorem kp_rfl (ν : NC) (A : Nat → Nat → Nat) : kp ν A A := ⟨fun _ _ _ _ => rfl, fun _ => rfl, fun _ => rfl⟩
theorem kp_trans {ν ν1 : NC} {A A1 A2 : Nat → Nat → Nat} (h : kp ν A A1) (m : mn ν ν1) (k : kp ν1 A1 A2) : kp ν A A2 := ⟨fun i j h1 h2 => (k.1 i j h1 (Nat.lt_of_lt_of_le h2 (m.1 i))).trans (h.1 i j h1 h2), fun i => (k.2.1 i).trans (h.2.1 i), fun i => (k.2.2 i).trans (h.2.2 i)⟩
theorem kp_up {ν : NC} {A : Nat → Nat → Nat} {k i q : Nat} (h : fxk k = false) : kp ν A (up2 A k i q) := ⟨fun k' i' h1 _ => up2_n _ _ (fun e => by rw [e.1, h] at h1; cases h1), fun i' => up2_n _ _ (fun e => by rw [← e.1] at h; exact absurd h (by decide)), fun i' => up2_n _ _ (fun e => by rw [← e.1] at h; exact absurd h (by decide))⟩
theorem kp_new {ν : NC} {A : Nat → Nat → Nat} {k i q : Nat} (h : k < 30) (hi : ν.2 k ≤ i) : kp ν A (up2 A k i q) := ⟨fun k' i' _ h2 => up2_n _ _ (fun e => by rw [e.1, e.2] at h2; omega), fun i' => up2_n _ _ (fun e => by omega), fun i' => up2_n _ _ (fun e => by omega)⟩
theorem kp_nv {ν : NC} {A A' : Nat → Nat → Nat} (h : kp ν A A') {k p : Nat} (hk : fxk k = true) (hp : decide (p ≤ ν.2 k) = true) : nv (A' k) p = nv (A k) p := by
  cases p with
  | zero => rfl
  | succ p => exact congrArg Value.ref (h.1 k p hk (of_decide_eq_true hp))
theorem ctg_98 (E : Nat → ClassId) (f : Nat → Int32) (N : Nat → Nat → Nat) (p : Nat → Nat) (A : Nat → Nat → Nat) (k i j v : Nat) : ctg E f (up2 N 98 j v) p A k i = ctg E f N p A k i := by
  by_cases hk : k = 98
  · subst hk; rfl
  · have e1 : up2 N 98 j v k i = N k i := congrFun (up2_k N v hk) i
    have e2 : up2 N 98 j v 5 = N 5 := up2_k N v (by decide)
    unfold ctg fvs
    rw [e1, e2]
theorem wld_98 {D : va_G} {E : Nat → ClassId} {A : Nat → Prop} {M : Nat → Nat → Nat → Int32} {N : Nat → Nat → Nat} {Pp : Nat → Nat → Nat → Nat} {Cc : Nat → Nat} {Ad : Nat → Nat → Nat} {ex : va_W} {H : Heap} (j v : Nat) (h : wld D E A (M, N, Pp, Cc, Ad) ex H) : wld D E A (M, up2 N 98 j v, Pp, Cc, Ad) ex H := by
  have hL : ∀ k i, live (M, up2 N 98 j v, Pp, Cc, Ad) k i ↔ live (M, N, Pp, Cc, Ad) k i := fun k i => by
    show (i < Cc k ∧ (k = 5 → up2 N 98 j v 5 i ≠ 0)) ↔ (i < Cc k ∧ (k = 5 → N 5 i ≠ 0))
    rw [congrFun (up2_k N v (show 5 ≠ 98 by decide)) i]
  refine ⟨fun k i hl => ⟨?_, (h.1 k i ((hL k i).mp hl)).2⟩, fun k i k' i' h1 h2 e => h.2.1 k i k' i' ((hL _ _).mp h1) ((hL _ _).mp h2) e, fun n q hq => ⟨(h.2.2.1 n q hq).1, fun k i hl => (h.2.2.1 n q hq).2 k i ((hL _ _).mp hl)⟩, h.2.2.2⟩
  show vA k D (Ad k i, ctg E (M k i) (up2 N 98 j v) (Pp k i) Ad k i) H
  rw [ctg_98]
  exact (h.1 k i ((hL k i).mp hl)).1
theorem wld_chg {D : va_G} {E : Nat → ClassId} {A : Nat → Prop} {μ : MP} {ν : NC} {a : AS} {Ad : Nat → Nat → Nat} {ex : va_W} {H : Heap} (c s : Nat) (h : wld D E A (zS μ ν a Ad) ex H) : wld D E A (zS μ (chg ν c s) a Ad) ex H := wld_98 _ _ (wld_98 _ _ h)
theorem Met_mono {l : Launch} {y : MethodName} {ws : List Cond} {rm : Room} {Pc Pc' : Array Value → State → Prop} {Qc Qc' : Array Value → State → Outcome → State → Prop} {mc ms : Nat} {free : Addr → Prop} (h : Met l y ws rm Pc Qc mc ms free) (hP : ∀ a s, Pc' a s → Pc a s) (hQ : ∀ a st o t, Qc a st o t → Qc' a st o t) : Met l y ws rm Pc' Qc' mc ms free := by
  intro p e h1 h2 h3 s m args below h4 h5 h6 h7
  obtain ⟨n, o, a, b, c, d⟩ := h p e h1 h2 h3 s m args below h4 h5 (hP _ _ h6) h7
  exact ⟨n, o, a, b, c, hQ _ _ _ _ d.1, d.2⟩
theorem cQ_mono {D : va_G} {E : Nat → ClassId} {sz : Nat} {σ : RS} {wr : List Nat} {post post' : Option Value → RS × va_W → Prop} (h : ∀ v u t, post v u → cB D E sz σ wr u t → ∃ u', post' v u' ∧ cB D E sz σ wr u' t) : ∀ a st o t, cQ D E sz σ wr post a st o t → cQ D E sz σ wr post' a st o t := fun a st o t hq => by
  obtain ⟨⟨v, u, h1, h2, h3⟩, h4⟩ := hq
  obtain ⟨u', h5, h6⟩ := h v u t h2 h3
  exact ⟨⟨v, u', h1, h5, h6⟩, h4⟩
theorem cB_chg {D : va_G} {E : Nat → ClassId} {sz : Nat} {σ : RS} {wr : List Nat} {μ : MP} {ν : NC} {a : AS} {Ad : Nat → Nat → Nat} {ex : va_W} {t : State} (c s : Nat) (h : cB D E sz σ wr (zS μ ν a Ad, ex) t) : cB D E sz σ wr (zS μ (chg ν c s) a Ad, ex) t := ⟨wld_chg c s h.1, h.2.1, h.2.2.1, h.2.2.2⟩
section ChG
variable {p : Program} {l : Launch} {e : Env} {R : Room} {s : State} {m : MethodId} {args : Array Value} {below : List Frame} {meth : Method} {c : Code} {D : va_G} {E : Nat → ClassId} {A : Nat → Prop} {cc : ByteArray} {nL : Nat} {own : String} {Q : State → Prop}
variable {μ : MP} {ν : NC} {a : AS} {Ad : Nat → Nat → Nat} {σ : RS} {ex : va_W} {cells slots pc : Nat} {lv : List (Nat × Value)} {rest : List Value}
theorem g_chg (n1 n2 : Nat) (kk : G p l e R s m args below meth c D E A nL Q (zS μ (chg ν n1 n2) a Ad) ex cells slots pc lv rest) : G p l e R s m args below meth c D E A nL Q (zS μ ν a Ad) ex cells slots pc lv rest := fun H locs ls hw hs hl => kk H locs ls (wld_chg n1 n2 hw) hs hl
end ChG
theorem of_guardP {α : Type} {p : Prop} {x : Option α} {y : α} (h : (@ite _ p (Classical.propDecidable p) x none) = some y) : p ∧ x = some y := by
  by_cases hp : p
  · rw [if_pos hp] at h; exact ⟨hp, h⟩
  · rw [if_neg hp] at h; cases h
/-! the ring of a way -/
def wayOk (μ : MP) (ν : NC) (t : Nat) : Prop := ν.1 11 t = ν.1 10 t ∧ ν.1 12 t = ν.1 10 t ∧ ¬ μ.1 2 t 3 < 0 ∧ ¬ μ.1 2 t 4 < 0 ∧ (μ.1 2 t 3).toNatClampNeg < ν.1 10 t ∧ (μ.1 2 t 4).toNatClampNeg ≤ ν.1 10 t ∧ ν.1 10 t ≤ 524288 ∧ t < ν.2 2 ∧ t < ν.2 10 ∧ t < ν.2 11 ∧ t < ν.2 12 ∧ ∀ j, μ.1 12 t j = 0 ∨ μ.1 12 t j = 1
def putM (μ : MP) (t z : Nat) (x y : Int32) (n : Nat) : MP := uM (uM (uM (uM μ 2 t 4 (nI (n + 1))) 10 t z x) 11 t z y) 12 t z 0
def growM (μ : MP) (t cap h : Nat) : MP := (up3 (up2 (up2 (up2 μ.1 10 t (fa (μ.1 10 t) cap h cap)) 11 t (fa (μ.1 11 t) cap h cap)) 12 t (fa (μ.1 12 t) cap h cap)) 2 t 3 0, μ.2)
def growN (ν : NC) (t cap : Nat) : NC := (up2 (up2 (up2 ν.1 10 t (2 * cap)) 11 t (2 * cap)) 12 t (2 * cap), ν.2)
noncomputable def f_X7_put (w : Nat) (μ : MP) (ν : NC) (t : Nat) (x y : Int32) : Option ((MP × NC) × Int32) :=
  @ite _ (wayOk μ ν t) (Classical.propDecidable _) (if (μ.1 2 t 4).toNatClampNeg < ν.1 10 t then some ((putM μ t (sl (ν.1 10 t) (μ.1 2 t 3).toNatClampNeg (μ.1 2 t 4).toNatClampNeg) x y (μ.1 2 t 4).toNatClampNeg, ν), 0)
    else some ((putM (growM μ t (ν.1 10 t) (μ.1 2 t 3).toNatClampNeg) t (ν.1 10 t) x y (ν.1 10 t), chg (growN ν t (ν.1 10 t)) 3 (6 * ν.1 10 t)), 0)) none
theorem mn_grow (ν : NC) (t cap : Nat) : mn ν (growN ν t cap) := mn_trans (mn_trans (mn_N (k := 10) (i := t) (v := 2 * cap) (by omega)) (mn_N (ν := (up2 ν.1 10 t (2 * cap), ν.2)) (k := 11) (i := t) (v := 2 * cap) (by omega))) (mn_N (ν := (up2 (up2 ν.1 10 t (2 * cap)) 11 t (2 * cap), ν.2)) (k := 12) (i := t) (v := 2 * cap) (by omega))
theorem m_X7_put {w : Nat} {μ : MP} {ν : NC} {t : Nat} {x y : Int32} {r0 : (MP × NC) × Int32} (h : f_X7_put w μ ν t x y = some r0) : mn ν r0.1.2 := by
  obtain ⟨-, h⟩ := of_guardP h
  by_cases hc : (μ.1 2 t 4).toNatClampNeg < ν.1 10 t
  · rw [if_pos hc] at h
    obtain rfl := Option.some.inj h
    exact mn_rfl ν
  · rw [if_neg hc] at h
    obtain rfl := Option.some.inj h
    exact mn_trans (mn_grow ν t _) (mn_chg _ _ _)
theorem putW_z (μ : MP) (ν : NC) (a : AS) (Ad : Nat → Nat → Nat) (t z : Nat) (x y : Int32) (n : Nat) : putW (zS μ ν a Ad) t z x y n = zS (putM μ t z x y n) ν a Ad := by
  show (up3 (up3 (up3 (up3 (mx μ.1 a) 2 t 4 _) 10 t z x) 11 t z y) 12 t z 0, ν.1, μ.2, ν.2, Ad) = _
  rw [mx_cl _ _ _ _ _ rfl, mx_cl _ _ _ _ _ rfl, mx_cl _ _ _ _ _ rfl, mx_cl _ _ _ _ _ rfl]
  rfl
theorem grW_z (μ : MP) (ν : NC) (a : AS) (Ad : Nat → Nat → Nat) (t cap h q1 q2 q3 : Nat) : grW (zS μ ν a Ad) t cap h q1 q2 q3 = zS (growM μ t cap h) (growN ν t cap) a (up2 (up2 (up2 Ad 10 t q1) 11 t q2) 12 t q3) := by
  show (up3 (up2 (up2 (up2 (mx μ.1 a) 10 t (fa (mx μ.1 a 10 t) cap h cap)) 11 t (fa (mx μ.1 a 11 t) cap h cap)) 12 t (fa (mx μ.1 a 12 t) cap h cap)) 2 t 3 0, _, μ.2, ν.2, _) = _
  rw [mx_lo μ.1 a (show Nat.ble 10 39 = true from rfl), mx_lo μ.1 a (show Nat.ble 11 39 = true from rfl), mx_lo μ.1 a (show Nat.ble 12 39 = true from rfl), mx_cl2 _ _ _ _ rfl, mx_cl2 _ _ _ _ rfl, mx_cl2 _ _ _ _ rfl, mx_cl _ _ _ _ _ rfl]
  rfl
theorem Met_room {l : Launch} {y : MethodName} {ws : List Cond} {rm : Room} {Pc : Array Value → State → Prop} {Qc : Array Value → State → Outcome → State → Prop} {mc ms f2 l2 : Nat} {free : Addr → Prop} (h : Met l y ws rm Pc Qc mc ms free) (hf : rm.frames ≤ f2) (hl : rm.locals ≤ l2) : Met l y ws ({ frames := f2, cells := rm.cells, slots := rm.slots, locals := l2 } : Room) Pc Qc mc ms free := by
  intro p e h1 h2 h3 s m args below h4 h5 h6 h7
  refine h p e h1 h2 h3 s m args below h4 ?_ h6 h7
  rw [Spec.appliesLoose_iff h4] at h5 ⊢
  obtain ⟨a1, a2, a3, a4, a5, a6, a7, a8⟩ := h5
  refine ⟨a1, a2, a3, a4, a5, a6, ?_, a8⟩
  have b1 := State.hasRoom_stack a7
  have b2 := State.hasRoom_heap a7
  have b3 := State.hasRoom_real a7
  have b4 := State.hasRoom_plain a7
  have hf2 : (headSpec ws rm).room.frames ≤ f2 := hf
  have hl2 : (headSpec ws rm).room.locals ≤ l2 := hl
  have b5 : s.slotsTrue = true := by
    simp only [State.hasRoom, Bool.and_eq_true, decide_eq_true_eq] at a7
    exact a7.2
  have c1 : s.frames.length + f2 ≤ e.platform.maxFrames := b1.1
  have c2 : s.localsInUse + l2 ≤ e.platform.maxStackSlots := b1.2.2.1
  have c3 : s.localsInUse + l2 + stackMargin ≤ realStackBytes / 8 := b3
  have c4 : s.heap.size + rm.cells ≤ e.platform.maxCells := b2.1
  have c5 : s.slotsUsed + rm.slots ≤ e.platform.maxSlots := b2.2
  exact State.hasRoom_of b4 (by omega) (by omega) c4 c5 b5 (by omega)
theorem c_X7_put (l : Launch) (B : Nat × (Nat → Nat)) (μ : MP) (ν : NC) (a : AS) (Ad : Nat → Nat → Nat) (w t : Nat) (x y : Int32) (r0 : (MP × NC) × Int32) (h : f_X7_put w μ ν t x y = some r0) : ∀ D E sz, Met l yX7_put gwX7_put ({ frames := 1, cells := kc r0.1.2 - kc ν, slots := ks r0.1.2 - ks ν, locals := 26 } : Room) (cPe D E sz B (zS μ ν a Ad) [] [] [.ref (Ad 2 t), .int x, .int y]) (cQ D E sz (zS μ ν a Ad) [] (pV (fun u => ∃ A1, u = (zS r0.1.1 r0.1.2 a A1, []) ∧ kp ν Ad A1))) (kc r0.1.2 - kc ν) (ks r0.1.2 - ks ν) (Aof (zS μ ν a Ad) [] sz) := by
  intro D E sz
  obtain ⟨⟨g1, g2, g3, g4, g5, g6, g7, g8, g9, g10, g11, g12⟩, h⟩ := of_guardP h
  obtain ⟨hh, hh1, e3⟩ := nI_of g3
  obtain ⟨n, hn1, e4⟩ := nI_of g4
  have e5 : (μ.1 2 t 3).toNatClampNeg = hh := by rw [e3, nI_clamp hh1]
  have e6 : (μ.1 2 t 4).toNatClampNeg = n := by rw [e4, nI_clamp hn1]
  rw [e5] at g5 h
  rw [e6] at g6 h
  have hw : WW (zS μ ν a Ad) t (ν.1 10 t) hh n := ⟨rfl, g1, g2, e3, e4, g5, g6, by omega, ⟨g8, fun e => absurd e (by decide)⟩, ⟨g9, fun e => absurd e (by decide)⟩, ⟨g10, fun e => absurd e (by decide)⟩, ⟨g11, fun e => absurd e (by decide)⟩⟩
  by_cases hc : n < ν.1 10 t
  · rw [if_pos hc] at h
    obtain rfl := Option.some.inj h
    rw [show kc ν - kc ν = 0 from Nat.sub_self _, show ks ν - ks ν = 0 from Nat.sub_self _]
    have hk := k_X7_put l (zS μ ν a Ad) t (ν.1 10 t) hh n x y hw hc D E sz
    refine Met_mono hk (fun a s q => ⟨q.1, q.2.1, q.2.2.1, q.2.2.2.1⟩) (cQ_mono fun v u t0 hp hb => ?_)
    obtain ⟨rfl, rfl⟩ := hp
    rw [putW_z] at hb
    exact ⟨_, ⟨rfl, Ad, rfl, kp_rfl _ _⟩, hb⟩
  · rw [if_neg hc] at h
    obtain rfl := Option.some.inj h
    have hn : n = ν.1 10 t := by omega
    have k0 : (growN ν t (ν.1 10 t)).1 98 = ν.1 98 := by
      unfold growN
      show up2 (up2 (up2 ν.1 10 t (2 * ν.1 10 t)) 11 t (2 * ν.1 10 t)) 12 t (2 * ν.1 10 t) 98 = ν.1 98
      rw [up2_k _ _ (by decide), up2_k _ _ (by decide), up2_k _ _ (by decide)]
    have k1 : kc (growN ν t (ν.1 10 t)) = kc ν := congrFun k0 0
    have k2 : ks (growN ν t (ν.1 10 t)) = ks ν := congrFun k0 1
    rw [show kc (chg (growN ν t (ν.1 10 t)) 3 (6 * ν.1 10 t)) - kc ν = 3 by rw [kc_chg, k1]; omega, show ks (chg (growN ν t (ν.1 10 t)) 3 (6 * ν.1 10 t)) - ks ν = 6 * ν.1 10 t by rw [ks_chg, k2]; omega]
    rw [hn] at hw
    have hk := k_X7_put_g l (zS μ ν a Ad) t (ν.1 10 t) hh x y hw g12 (by omega) D E sz
    refine Met_mono hk (fun a s q => ⟨q.1, q.2.1, q.2.2.1, q.2.2.2.1⟩) (cQ_mono fun v u t0 hp hb => ?_)
    obtain ⟨rfl, q1, q2, q3, rfl⟩ := hp
    rw [grW_z, putW_z, show sl (2 * ν.1 10 t) 0 (ν.1 10 t) = ν.1 10 t from by unfold sl; rw [if_pos (by omega)]; omega] at hb
    exact ⟨_, ⟨rfl, _, rfl, kp_trans (kp_trans (kp_up (k := 10) rfl) (mn_rfl ν) (kp_up (k := 11) rfl)) (mn_rfl ν) (kp_up (k := 12) rfl)⟩, cB_chg 3 (6 * ν.1 10 t) hb⟩
/-! what a side holds back -/
def hdM (μ : MP) (t k : Nat) (x : Int32) : MP := uM (if μ.1 13 t k = 0 then uM μ 3 t 1 (μ.1 3 t 1 + 1) else μ) 13 t k x
noncomputable def f_X0_hold (w : Nat) (μ : MP) (ν : NC) (t : Nat) (x y : Int32) : Option ((MP × NC) × Int32) :=
  bif decide (t < ν.2 3) && decide (t < ν.2 13) && !decide (x < 0) && decide (x.toNatClampNeg ≤ 1048576) && decide (ν.1 13 t < 1073741824) then (if x.toNatClampNeg < ν.1 13 t then some ((hdM μ t x.toNatClampNeg y, ν), 0)
    else bif decide (0 < x.toNatClampNeg) then some ((hdM (up2 μ.1 13 t (va_cpy (μ.1 13 t) (fun _ => 0) 0 0 (ν.1 13 t)), μ.2) t x.toNatClampNeg y, chg (up2 ν.1 13 t (2 * x.toNatClampNeg), ν.2) 1 (2 * x.toNatClampNeg)), 0) else none) else none
theorem m_X0_hold {w : Nat} {μ : MP} {ν : NC} {t : Nat} {x y : Int32} {r0 : (MP × NC) × Int32} (h : f_X0_hold w μ ν t x y = some r0) : mn ν r0.1.2 := by
  obtain ⟨-, h⟩ := of_guard h
  by_cases hc : x.toNatClampNeg < ν.1 13 t
  · rw [if_pos hc] at h
    obtain rfl := Option.some.inj h
    exact mn_rfl ν
  · rw [if_neg hc] at h
    obtain ⟨-, h⟩ := of_guard h
    obtain rfl := Option.some.inj h
    exact mn_trans (mn_N (k := 13) (i := t) (v := 2 * x.toNatClampNeg) (by omega)) (mn_chg _ _ _)
theorem hdS_z (μ : MP) (ν : NC) (a : AS) (Ad : Nat → Nat → Nat) (t k : Nat) (x : Int32) : hdS (zS μ ν a Ad) t k x = zS (hdM μ t k x) ν a Ad := by
  unfold hdS hdM
  show sM (if mx μ.1 a 13 t k = 0 then sM (zS μ ν a Ad) 3 t 1 (mx μ.1 a 3 t 1 + 1) else zS μ ν a Ad) 13 t k x = _
  rw [mx_lo μ.1 a (show Nat.ble 13 39 = true from rfl), mx_lo μ.1 a (show Nat.ble 3 39 = true from rfl)]
  by_cases h : μ.1 13 t k = 0
  · rw [if_pos h, if_pos h]
    show (up3 (up3 (mx μ.1 a) 3 t 1 _) 13 t k x, ν.1, μ.2, ν.2, Ad) = _
    rw [mx_cl _ _ _ _ _ rfl, mx_cl _ _ _ _ _ rfl]; rfl
  · rw [if_neg h, if_neg h]
    show (up3 (mx μ.1 a) 13 t k x, ν.1, μ.2, ν.2, Ad) = _
    rw [mx_cl _ _ _ _ _ rfl]; rfl
theorem sW_z (μ : MP) (ν : NC) (a : AS) (Ad : Nat → Nat → Nat) {k : Nat} (i : Nat) (f : Nat → Int32) (N q : Nat) (hk : Nat.ble k 39 = true) : sW (zS μ ν a Ad) k i f N q = zS (up2 μ.1 k i f, μ.2) (up2 ν.1 k i N, ν.2) a (up2 Ad k i q) := by
  show (up2 (mx μ.1 a) k i f, up2 ν.1 k i N, μ.2, ν.2, up2 Ad k i q) = _
  rw [mx_cl2 _ _ _ _ hk]
set_option maxRecDepth 100000 in
theorem c_X0_hold (l : Launch) (B : Nat × (Nat → Nat)) (μ : MP) (ν : NC) (a : AS) (Ad : Nat → Nat → Nat) (w t : Nat) (x y : Int32) (r0 : (MP × NC) × Int32) (h : f_X0_hold w μ ν t x y = some r0) : ∀ D E sz, Met l yX0_hold gwX0_hold ({ frames := 2, cells := kc r0.1.2 - kc ν, slots := ks r0.1.2 - ks ν, locals := 40 } : Room) (cPe D E sz B (zS μ ν a Ad) [] [] [.ref (Ad 3 t), .int x, .int y]) (cQ D E sz (zS μ ν a Ad) [] (pV (fun u => ∃ A1, u = (zS r0.1.1 r0.1.2 a A1, []) ∧ kp ν Ad A1))) (kc r0.1.2 - kc ν) (ks r0.1.2 - ks ν) (Aof (zS μ ν a Ad) [] sz) := by
  intro D E sz
  obtain ⟨g1, h⟩ := of_guard h
  simp only [Bool.and_eq_true, decide_eq_true_eq, Bool.not_eq_true', decide_eq_false_iff_not] at g1
  obtain ⟨⟨⟨⟨g1, g2⟩, g3⟩, g4⟩, g5⟩ := g1
  obtain ⟨k, hk1, rfl⟩ := nI_of g3
  rw [nI_clamp hk1] at g4 h
  have l3 : live (zS μ ν a Ad) 3 t := ⟨g1, fun e => absurd e (by decide)⟩
  have l13 : live (zS μ ν a Ad) 13 t := ⟨g2, fun e => absurd e (by decide)⟩
  by_cases hc : k < ν.1 13 t
  · rw [if_pos hc] at h
    obtain rfl := Option.some.inj h
    rw [show kc ν - kc ν = 0 from Nat.sub_self _, show ks ν - ks ν = 0 from Nat.sub_self _]
    have hk := k_X0_hold l (zS μ ν a Ad) t k y l3 l13 g4 hc (by show ν.1 13 t < 2 ^ 30; omega) D E sz
    have hk2 := Met_room (f2 := 2) (l2 := 40) hk (Nat.zero_le _) (Nat.zero_le _)
    refine Met_mono hk2 (fun a s q => ⟨q.1, q.2.1, q.2.2.1, q.2.2.2.1⟩) (cQ_mono fun v u t0 hp hb => ?_)
    obtain ⟨rfl, rfl⟩ := hp
    rw [hdS_z] at hb
    exact ⟨_, ⟨rfl, Ad, rfl, kp_rfl _ _⟩, hb⟩
  · rw [if_neg hc] at h
    obtain ⟨g6, h⟩ := of_guard h
    obtain rfl := Option.some.inj h
    have k1 : kc (up2 ν.1 13 t (2 * k), ν.2) = kc ν := congrFun (up2_k (i := t) ν.1 (2 * k) (show 98 ≠ 13 by decide)) 0
    have k2 : ks (up2 ν.1 13 t (2 * k), ν.2) = ks ν := congrFun (up2_k (i := t) ν.1 (2 * k) (show 98 ≠ 13 by decide)) 1
    rw [show kc (chg (up2 ν.1 13 t (2 * k), ν.2) 1 (2 * k)) - kc ν = 1 by rw [kc_chg, k1]; omega, show ks (chg (up2 ν.1 13 t (2 * k), ν.2) 1 (2 * k)) - ks ν = 2 * k by rw [ks_chg, k2]; omega]
    have hk := k_X0_hold_g l (zS μ ν a Ad) t k y l3 l13 g4 (by show ν.1 13 t ≤ k; omega) (of_decide_eq_true g6) D E sz
    refine Met_mono hk (fun a s q => ⟨q.1, q.2.1, q.2.2.1, q.2.2.2.1⟩) (cQ_mono fun v u t0 hp hb => ?_)
    obtain ⟨rfl, q, rfl⟩ := hp
    rw [show rM (zS μ ν a Ad) 13 t = μ.1 13 t from mx_lo μ.1 a (k := 13) (i := t) rfl, sW_z μ ν a Ad t _ _ q rfl, hdS_z] at hb
    exact ⟨_, ⟨rfl, _, rfl, kp_up (k := 13) rfl⟩, cB_chg 1 (2 * k) hb⟩
