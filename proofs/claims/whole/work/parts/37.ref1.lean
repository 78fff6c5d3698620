noncomputable def b_X9_knows_3 (k3 : AS → Int32 → Int32 → Int32 → Int32 → Option (AS × Int32)) (w : Nat) (a : AS) (x1 x2 x3 x4 : Int32) : Option (AS × Int32) := (if (x2 + x3) ≤ x4 then (some (a, (0 : Int32))) else (bif ixB x4 200 then yl (up2 a 42 x4.toNatClampNeg (vp_nar .boolean (1 : Int32))) (fun a2 => bif ixB x4 100 then yl (up2 a2 41 x4.toNatClampNeg (a2 40 x4.toNatClampNeg)) (fun a4 => bif ixB x1 80 then yl (up2 a4 27 x1.toNatClampNeg ((a4 27 x1.toNatClampNeg) + (a4 39 x4.toNatClampNeg))) (fun a6 => yl (x4 + (1 : Int32)) (fun t7 => k3 a6 x1 x2 x3 t7)) else none) else none) else none))
set_option maxHeartbeats 4000000 in
set_option maxRecDepth 100000 in
theorem lb_X9_knows_3 {p : Program} {l : Launch} {e : Env} {s : State} {m : MethodId} {args : Array Value} {below : List Frame} {meth : Method} {c : Code} {D : va_G} {E : Nat → ClassId} {sz : Nat} {M : Nat → Nat → Nat → Int32} {a0 : AS} {ρ : YR} {w : Nat} {r0 : AS × Int32} (C : cx p s m args meth c D E (Aof (mx M a0, ρ) [] s.heap.size) cX9_knows 5 "TradeLineModel") (hr : meth.sig.returnType = none) (hz : s.heap.size = sz) (hρ : rsh ρ) {a : AS} {x1 x2 x3 x4 : Int32} {k3 : AS → Int32 → Int32 → Int32 → Int32 → Option (AS × Int32)} (hk3 : ∀ (a1 : AS) (z1 z2 z3 z4 : Int32), k3 a1 z1 z2 z3 z4 = some r0 → G p l e ({ frames := 0, cells := 0, slots := 0, locals := 0 } : Room) s m args below meth c D E (Aof (mx M a0, ρ) [] s.heap.size) 5 (MQ below (cQ D E sz (mx M a0, ρ) [] (pV (fun u => u = ((mx M r0.1, ρ), [])))) args s 0 0 (Aof (mx M a0, ρ) [] s.heap.size)) (mx M a1, ρ) [] 0 0 3 [(0, .ref (ρ.2.2.2 40 0)), (1, .int z1), (2, .int z2), (3, .int z3), (4, .int z4)] []) (h : b_X9_knows_3 k3 w a x1 x2 x3 x4 = some r0) : G p l e ({ frames := 0, cells := 0, slots := 0, locals := 0 } : Room) s m args below meth c D E (Aof (mx M a0, ρ) [] s.heap.size) 5 (MQ below (cQ D E sz (mx M a0, ρ) [] (pV (fun u => u = ((mx M r0.1, ρ), [])))) args s 0 0 (Aof (mx M a0, ρ) [] s.heap.size)) (mx M a, ρ) [] 0 0 3 [(0, .ref (ρ.2.2.2 40 0)), (1, .int x1), (2, .int x2), (3, .int x3), (4, .int x4)] [] := by
  unfold b_X9_knows_3 at h
  refine g_iload C dX9_knows_3 4 rfl ?_
  refine g_iload_n C dX9_knows_5 rfl 2 rfl ?_
  refine g_iload_n C dX9_knows_6 rfl 3 rfl ?_
  refine g_iadd C dX9_knows_7 ?_
  refine g_icmp_ge (tgt := 55) C dX9_knows_8 (by decide) (fun c8 => ?_) (fun c8 => ?_)
  · replace h := (if_pos c8).symm.trans h
    obtain rfl := Option.some.inj h
    exact g_vret C hr hz ⟨rfl, rfl, fun _ => rfl, fun _ => rfl⟩ rfl (fun j x h => by simp at h) dX9_knows_55
  · replace h := (if_neg c8).symm.trans h
    refine g_aload_n C dX9_knows_11 rfl 0 rfl ?_
    refine g_get (k := 40) (i := 0) (ref := "TradeLineModel") (v := .ref (ρ.2.2.2 (40 + 42) 0)) C rfl (lvY0 hρ) rfl rfl inGX9 42 (by decide) gw_1371 (fun _ h => h) rfl dX9_knows_12 ?_
    refine g_iload C dX9_knows_15 4 rfl ?_
    refine g_iconst (v := (1 : Int32)) C dX9_knows_17 (by decide) ?_
    obtain ⟨g1, h⟩ := of_guard h
    refine q_zast C hρ (j := 42) (N := 200) (List.mem_of_getElem? (i := 36) rfl) rfl rfl g1 dX9_knows_18 (fun a2 ea2 => ?_)
    replace h := yl_of h ea2
    refine g_aload_n C dX9_knows_19 rfl 0 rfl ?_
    refine g_get (k := 40) (i := 0) (ref := "TradeLineModel") (v := .ref (ρ.2.2.2 (40 + 41) 0)) C rfl (lvY0 hρ) rfl rfl inGX9 41 (by decide) gw_1370 (fun _ h => h) rfl dX9_knows_20 ?_
    refine g_iload C dX9_knows_23 4 rfl ?_
    refine g_aload_n C dX9_knows_25 rfl 0 rfl ?_
    refine g_get (k := 40) (i := 0) (ref := "TradeLineModel") (v := .ref (ρ.2.2.2 (40 + 40) 0)) C rfl (lvY0 hρ) rfl rfl inGX9 40 (by decide) gw_1369 (fun _ h => h) rfl dX9_knows_26 ?_
    refine g_iload C dX9_knows_29 4 rfl ?_
    obtain ⟨g3, h⟩ := of_guard h
    refine q_iald C hρ (j := 40) (N := 100) (List.mem_of_getElem? (i := 34) rfl) rfl rfl g3 dX9_knows_31 ?_
    refine q_iast C hρ (j := 41) (N := 200) (List.mem_of_getElem? (i := 35) rfl) rfl rfl g1 dX9_knows_32 (fun a4 ea4 => ?_)
    replace h := yl_of h ea4
    refine g_aload_n C dX9_knows_33 rfl 0 rfl ?_
    refine g_get (k := 40) (i := 0) (ref := "TradeLineModel") (v := .ref (ρ.2.2.2 (40 + 27) 0)) C rfl (lvY0 hρ) rfl rfl inGX9 27 (by decide) gw_1356 (fun _ h => h) rfl dX9_knows_34 ?_
    refine g_iload_n C dX9_knows_37 rfl 1 rfl ?_
    refine g_dup2 C dX9_knows_38 rfl rfl ?_
    obtain ⟨g5, h⟩ := of_guard h
    refine q_iald C hρ (j := 27) (N := 80) (List.mem_of_getElem? (i := 23) rfl) rfl rfl g5 dX9_knows_39 ?_
    refine g_aload_n C dX9_knows_40 rfl 0 rfl ?_
    refine g_get (k := 40) (i := 0) (ref := "TradeLineModel") (v := .ref (ρ.2.2.2 (40 + 39) 0)) C rfl (lvY0 hρ) rfl rfl inGX9 39 (by decide) gw_1368 (fun _ h => h) rfl dX9_knows_41 ?_
    refine g_iload C dX9_knows_44 4 rfl ?_
    refine q_iald C hρ (j := 39) (N := 100) (List.mem_of_getElem? (i := 33) rfl) rfl rfl g3 dX9_knows_46 ?_
    refine g_iadd C dX9_knows_47 ?_
    refine q_iast C hρ (j := 27) (N := 80) (List.mem_of_getElem? (i := 23) rfl) rfl rfl g5 dX9_knows_48 (fun a6 ea6 => ?_)
    replace h := yl_of h ea6
    obtain ⟨t7, et7⟩ : ∃ y : Int32, x4 + (1 : Int32) = y := ⟨_, rfl⟩
    replace h := yl_of h et7
    refine g_iinc (v := t7) (lv' := [(4, .int t7), (0, .ref (ρ.2.2.2 40 0)), (1, .int x1), (2, .int x2), (3, .int x3)]) C dX9_knows_49 4 rfl (by rw [← et7]; rfl) (by decide) rfl ?_
    refine g_goto (tgt := 3) C dX9_knows_52 (by decide) ?_
    refine g_lv [1, 2, 3, 4, 0] rfl ?_
    exact hk3 _ _ _ _ _ h
noncomputable def l_X9_knows_3  (w : Nat) : Nat → AS → Int32 → Int32 → Int32 → Int32 → Option (AS × Int32)
  | 0 => fun _ _ _ _ _ => none
  | n + 1 => fun a x1 x2 x3 x4 => b_X9_knows_3  (l_X9_knows_3  w n) w a x1 x2 x3 x4
theorem ll_X9_knows_3 {p : Program} {l : Launch} {e : Env} {s : State} {m : MethodId} {args : Array Value} {below : List Frame} {meth : Method} {c : Code} {D : va_G} {E : Nat → ClassId} {sz : Nat} {M : Nat → Nat → Nat → Int32} {a0 : AS} {ρ : YR} {w : Nat} {r0 : AS × Int32} (C : cx p s m args meth c D E (Aof (mx M a0, ρ) [] s.heap.size) cX9_knows 5 "TradeLineModel") (hr : meth.sig.returnType = none) (hz : s.heap.size = sz) (hρ : rsh ρ)   : ∀ (n : Nat) (a : AS) (x1 x2 x3 x4 : Int32), l_X9_knows_3  w n a x1 x2 x3 x4 = some r0 → G p l e ({ frames := 0, cells := 0, slots := 0, locals := 0 } : Room) s m args below meth c D E (Aof (mx M a0, ρ) [] s.heap.size) 5 (MQ below (cQ D E sz (mx M a0, ρ) [] (pV (fun u => u = ((mx M r0.1, ρ), [])))) args s 0 0 (Aof (mx M a0, ρ) [] s.heap.size)) (mx M a, ρ) [] 0 0 3 [(0, .ref (ρ.2.2.2 40 0)), (1, .int x1), (2, .int x2), (3, .int x3), (4, .int x4)] [] := by
  intro n
  induction n with
  | zero => exact fun a x1 x2 x3 x4 h => absurd (show (none : Option (AS × Int32)) = some r0 from h) (by simp)
  | succ n ih => exact fun a x1 x2 x3 x4 h => lb_X9_knows_3 (w := w) C hr hz hρ  ih h
noncomputable def f_X9_knows  (w : Nat) (a : AS) (x1 x2 x3 : Int32) : Option (AS × Int32) := l_X9_knows_3  w w a x1 x2 x3 x2
set_option maxHeartbeats 4000000 in
set_option maxRecDepth 100000 in
theorem lb_X9_knows_0 {p : Program} {l : Launch} {e : Env} {s : State} {m : MethodId} {args : Array Value} {below : List Frame} {meth : Method} {c : Code} {D : va_G} {E : Nat → ClassId} {sz : Nat} {M : Nat → Nat → Nat → Int32} {a0 : AS} {ρ : YR} {w : Nat} {r0 : AS × Int32} (C : cx p s m args meth c D E (Aof (mx M a0, ρ) [] s.heap.size) cX9_knows 5 "TradeLineModel") (hr : meth.sig.returnType = none) (hz : s.heap.size = sz) (hρ : rsh ρ) {a : AS} {x1 x2 x3 : Int32}   (h : f_X9_knows  w a x1 x2 x3 = some r0) : G p l e ({ frames := 0, cells := 0, slots := 0, locals := 0 } : Room) s m args below meth c D E (Aof (mx M a0, ρ) [] s.heap.size) 5 (MQ below (cQ D E sz (mx M a0, ρ) [] (pV (fun u => u = ((mx M r0.1, ρ), [])))) args s 0 0 (Aof (mx M a0, ρ) [] s.heap.size)) (mx M a, ρ) [] 0 0 0 [(0, .ref (ρ.2.2.2 40 0)), (1, .int x1), (2, .int x2), (3, .int x3)] [] := by
  unfold f_X9_knows at h
  refine g_iload_n C dX9_knows_0 rfl 2 rfl ?_
  refine g_istore (lv' := [(4, .int x2), (0, .ref (ρ.2.2.2 40 0)), (1, .int x1), (2, .int x2), (3, .int x3)]) C dX9_knows_1 (by decide) rfl ?_
  refine g_lv [1, 2, 3, 4, 0] rfl ?_
  exact ll_X9_knows_3 C hr hz hρ  w _ _ _ _ _ h
theorem k_X9_knows (l : Launch) (M : Nat → Nat → Nat → Int32) (ρ : YR) (hρ : rsh ρ) (w : Nat) (a : AS) (x1 x2 x3 : Int32) (r0 : AS × Int32) (h : f_X9_knows w a x1 x2 x3 = some r0) : ∀ D E sz, Met l yX9_knows gwX9_knows ({ frames := 0, cells := 0, slots := 0, locals := 0 } : Room) (cP D E sz (mx M a, ρ) [] [.ref (ρ.2.2.2 40 0), .int x1, .int x2, .int x3]) (cQ D E sz (mx M a, ρ) [] (pV (fun u => u = ((mx M r0.1, ρ), [])))) (0) (0) (Aof (mx M a, ρ) [] sz) := by
  intro D E sz
  refine g_of (cc := cX9_knows) (maxL := 5) (ret := none) (own := "TradeLineModel") (by decide) rfl rfl (Nat.le_of_ble_eq_true rfl) ?_
  intro p e s m args below meth c C hr hin hz ha hwr
  refine g_lv [0, 1, 2, 3] rfl ?_
  exact lb_X9_knows_0 C hr hz hρ h
noncomputable def b_X9_learns_267  (w : Nat) (a : AS) (s0 s1 s2 : Int32) : Option (AS × Int32) := bif ixB s2 40 then yl (up2 a 30 s2.toNatClampNeg (s1 - s0)) (fun a6 => some (a6, (0 : Int32))) else none
set_option maxHeartbeats 4000000 in
set_option maxRecDepth 100000 in
theorem lb_X9_learns_267 {p : Program} {l : Launch} {e : Env} {s : State} {m : MethodId} {args : Array Value} {below : List Frame} {meth : Method} {c : Code} {D : va_G} {E : Nat → ClassId} {sz : Nat} {M : Nat → Nat → Nat → Int32} {a0 : AS} {ρ : YR} {w : Nat} {r0 : AS × Int32} (C : cx p s m args meth c D E (Aof (mx M a0, ρ) [] s.heap.size) cX9_learns 5 "TradeLineModel") (hr : meth.sig.returnType = none) (hz : s.heap.size = sz) (hρ : rsh ρ) {a : AS} {s0 s1 s2 : Int32}   (h : b_X9_learns_267  w a s0 s1 s2 = some r0) : G p l e ({ frames := 1, cells := 0, slots := 0, locals := 24 } : Room) s m args below meth c D E (Aof (mx M a0, ρ) [] s.heap.size) 5 (MQ below (cQ D E sz (mx M a0, ρ) [] (pV (fun u => u = ((mx M r0.1, ρ), [])))) args s 0 0 (Aof (mx M a0, ρ) [] s.heap.size)) (mx M a, ρ) [] 0 0 267 [(0, .ref (ρ.2.2.2 40 0))] [.int s0, .int s1, .int s2, .ref (ρ.2.2.2 (40 + 30) 0)] := by
  unfold b_X9_learns_267 at h
  refine g_isub C dX9_learns_267 ?_
  obtain ⟨g5, h⟩ := of_guard h
  refine q_iast C hρ (j := 30) (N := 40) (List.mem_of_getElem? (i := 26) rfl) rfl rfl g5 dX9_learns_268 (fun a6 ea6 => ?_)
  replace h := yl_of h ea6
  obtain rfl := Option.some.inj h
  exact g_vret C hr hz ⟨rfl, rfl, fun _ => rfl, fun _ => rfl⟩ rfl (fun j x h => by simp at h) dX9_learns_269
noncomputable def b_X9_learns_266  (w : Nat) (a : AS) (s0 s1 : Int32) : Option (AS × Int32) := b_X9_learns_267  w a (0 : Int32) s0 s1
set_option maxHeartbeats 4000000 in
set_option maxRecDepth 100000 in
theorem lb_X9_learns_266 {p : Program} {l : Launch} {e : Env} {s : State} {m : MethodId} {args : Array Value} {below : List Frame} {meth : Method} {c : Code} {D : va_G} {E : Nat → ClassId} {sz : Nat} {M : Nat → Nat → Nat → Int32} {a0 : AS} {ρ : YR} {w : Nat} {r0 : AS × Int32} (C : cx p s m args meth c D E (Aof (mx M a0, ρ) [] s.heap.size) cX9_learns 5 "TradeLineModel") (hr : meth.sig.returnType = none) (hz : s.heap.size = sz) (hρ : rsh ρ) {a : AS} {s0 s1 : Int32}   (h : b_X9_learns_266  w a s0 s1 = some r0) : G p l e ({ frames := 1, cells := 0, slots := 0, locals := 24 } : Room) s m args below meth c D E (Aof (mx M a0, ρ) [] s.heap.size) 5 (MQ below (cQ D E sz (mx M a0, ρ) [] (pV (fun u => u = ((mx M r0.1, ρ), [])))) args s 0 0 (Aof (mx M a0, ρ) [] s.heap.size)) (mx M a, ρ) [] 0 0 266 [(0, .ref (ρ.2.2.2 40 0))] [.int s0, .int s1, .ref (ρ.2.2.2 (40 + 30) 0)] := by
  unfold b_X9_learns_266 at h
  refine g_iconst (v := (0 : Int32)) C dX9_learns_266 (by decide) ?_
  refine g_lv [0] rfl ?_
  exact lb_X9_learns_267 C hr hz hρ  h
noncomputable def b_X9_learns_239  (w : Nat) (a : AS) (x3 s0 : Int32) : Option (AS × Int32) := bif ixB x3 40 then (if s0 = (0 : Int32) then (b_X9_learns_266  w a (a 30 x3.toNatClampNeg) x3) else ((if (a 30 x3.toNatClampNeg) ≤ (0 : Int32) then (b_X9_learns_266  w a (a 30 x3.toNatClampNeg) x3) else (b_X9_learns_267  w a (1 : Int32) (a 30 x3.toNatClampNeg) x3)))) else none
set_option maxHeartbeats 4000000 in
set_option maxRecDepth 100000 in
theorem lb_X9_learns_239 {p : Program} {l : Launch} {e : Env} {s : State} {m : MethodId} {args : Array Value} {below : List Frame} {meth : Method} {c : Code} {D : va_G} {E : Nat → ClassId} {sz : Nat} {M : Nat → Nat → Nat → Int32} {a0 : AS} {ρ : YR} {w : Nat} {r0 : AS × Int32} (C : cx p s m args meth c D E (Aof (mx M a0, ρ) [] s.heap.size) cX9_learns 5 "TradeLineModel") (hr : meth.sig.returnType = none) (hz : s.heap.size = sz) (hρ : rsh ρ) {a : AS} {x3 s0 : Int32}   (h : b_X9_learns_239  w a x3 s0 = some r0) : G p l e ({ frames := 1, cells := 0, slots := 0, locals := 24 } : Room) s m args below meth c D E (Aof (mx M a0, ρ) [] s.heap.size) 5 (MQ below (cQ D E sz (mx M a0, ρ) [] (pV (fun u => u = ((mx M r0.1, ρ), [])))) args s 0 0 (Aof (mx M a0, ρ) [] s.heap.size)) (mx M a, ρ) [] 0 0 239 [(0, .ref (ρ.2.2.2 40 0)), (3, .int x3)] [.int s0] := by
  unfold b_X9_learns_239 at h
  refine g_istore (lv' := [(4, .int s0), (0, .ref (ρ.2.2.2 40 0)), (3, .int x3)]) C dX9_learns_239 (by decide) rfl ?_
  refine g_aload_n C dX9_learns_241 rfl 1 rfl ?_
  refine g_get (k := 40) (i := 0) (ref := "TradeLineModel") (v := .ref (ρ.2.2.2 (40 + 30) 0)) C rfl (lvY0 hρ) rfl rfl inGX9 30 (by decide) gw_1359 (fun _ h => h) rfl dX9_learns_242 ?_
  refine g_iload_n C dX9_learns_245 rfl 2 rfl ?_
  refine g_dup2 C dX9_learns_246 rfl rfl ?_
  obtain ⟨g4, h⟩ := of_guard h
  refine q_iald C hρ (j := 30) (N := 40) (List.mem_of_getElem? (i := 26) rfl) rfl rfl g4 dX9_learns_247 ?_
  refine g_iload C dX9_learns_248 0 rfl ?_
  refine g_if_eq (tgt := 266) C dX9_learns_250 (by decide) (fun c250 => ?_) (fun c250 => ?_)
  · replace h := (if_pos c250).symm.trans h
    refine g_lv [1] rfl ?_
    exact lb_X9_learns_266 C hr hz hρ  h
  · replace h := (if_neg c250).symm.trans h
    refine g_aload_n C dX9_learns_253 rfl 1 rfl ?_
    refine g_get (k := 40) (i := 0) (ref := "TradeLineModel") (v := .ref (ρ.2.2.2 (40 + 30) 0)) C rfl (lvY0 hρ) rfl rfl inGX9 30 (by decide) gw_1359 (fun _ h => h) rfl dX9_learns_254 ?_
    refine g_iload_n C dX9_learns_257 rfl 2 rfl ?_
    refine q_iald C hρ (j := 30) (N := 40) (List.mem_of_getElem? (i := 26) rfl) rfl rfl g4 dX9_learns_258 ?_
    refine g_if_le (tgt := 266) C dX9_learns_259 (by decide) (fun c259 => ?_) (fun c259 => ?_)
    · replace h := (if_pos c259).symm.trans h
      refine g_lv [1] rfl ?_
      exact lb_X9_learns_266 C hr hz hρ  h
    · replace h := (if_neg c259).symm.trans h
      refine g_iconst (v := (1 : Int32)) C dX9_learns_262 (by decide) ?_
      refine g_goto (tgt := 267) C dX9_learns_263 (by decide) ?_
      refine g_lv [1] rfl ?_
      exact lb_X9_learns_267 C hr hz hρ  h
noncomputable def b_X9_learns_234  (w : Nat) (a : AS) (x3 : Int32) : Option (AS × Int32) := b_X9_learns_239  w a x3 (1 : Int32)
set_option maxHeartbeats 4000000 in
set_option maxRecDepth 100000 in
theorem lb_X9_learns_234 {p : Program} {l : Launch} {e : Env} {s : State} {m : MethodId} {args : Array Value} {below : List Frame} {meth : Method} {c : Code} {D : va_G} {E : Nat → ClassId} {sz : Nat} {M : Nat → Nat → Nat → Int32} {a0 : AS} {ρ : YR} {w : Nat} {r0 : AS × Int32} (C : cx p s m args meth c D E (Aof (mx M a0, ρ) [] s.heap.size) cX9_learns 5 "TradeLineModel") (hr : meth.sig.returnType = none) (hz : s.heap.size = sz) (hρ : rsh ρ) {a : AS} {x3 : Int32}   (h : b_X9_learns_234  w a x3 = some r0) : G p l e ({ frames := 1, cells := 0, slots := 0, locals := 24 } : Room) s m args below meth c D E (Aof (mx M a0, ρ) [] s.heap.size) 5 (MQ below (cQ D E sz (mx M a0, ρ) [] (pV (fun u => u = ((mx M r0.1, ρ), [])))) args s 0 0 (Aof (mx M a0, ρ) [] s.heap.size)) (mx M a, ρ) [] 0 0 234 [(0, .ref (ρ.2.2.2 40 0)), (3, .int x3)] [] := by
  unfold b_X9_learns_234 at h
  refine g_iconst (v := (1 : Int32)) C dX9_learns_234 (by decide) ?_
  refine g_goto (tgt := 239) C dX9_learns_235 (by decide) ?_
  refine g_lv [0, 1] rfl ?_
  exact lb_X9_learns_239 C hr hz hρ  h
noncomputable def b_X9_learns_219  (w : Nat) (a : AS) (x2 x3 : Int32) : Option (AS × Int32) := (if x2 = (2 : Int32) then (b_X9_learns_234  w a x3) else ((if x2 = (3 : Int32) then (b_X9_learns_234  w a x3) else ((if x2 = (4 : Int32) then (b_X9_learns_234  w a x3) else (b_X9_learns_239  w a x3 (0 : Int32)))))))
set_option maxHeartbeats 4000000 in
set_option maxRecDepth 100000 in
theorem lb_X9_learns_219 {p : Program} {l : Launch} {e : Env} {s : State} {m : MethodId} {args : Array Value} {below : List Frame} {meth : Method} {c : Code} {D : va_G} {E : Nat → ClassId} {sz : Nat} {M : Nat → Nat → Nat → Int32} {a0 : AS} {ρ : YR} {w : Nat} {r0 : AS × Int32} (C : cx p s m args meth c D E (Aof (mx M a0, ρ) [] s.heap.size) cX9_learns 5 "TradeLineModel") (hr : meth.sig.returnType = none) (hz : s.heap.size = sz) (hρ : rsh ρ) {a : AS} {x2 x3 : Int32}   (h : b_X9_learns_219  w a x2 x3 = some r0) : G p l e ({ frames := 1, cells := 0, slots := 0, locals := 24 } : Room) s m args below meth c D E (Aof (mx M a0, ρ) [] s.heap.size) 5 (MQ below (cQ D E sz (mx M a0, ρ) [] (pV (fun u => u = ((mx M r0.1, ρ), [])))) args s 0 0 (Aof (mx M a0, ρ) [] s.heap.size)) (mx M a, ρ) [] 0 0 219 [(0, .ref (ρ.2.2.2 40 0)), (2, .int x2), (3, .int x3)] [] := by
  unfold b_X9_learns_219 at h
  refine g_iload_n C dX9_learns_219 rfl 1 rfl ?_
  refine g_iconst (v := (2 : Int32)) C dX9_learns_220 (by decide) ?_
  refine g_icmp_eq (tgt := 234) C dX9_learns_221 (by decide) (fun c221 => ?_) (fun c221 => ?_)
  · replace h := (if_pos c221).symm.trans h
    refine g_lv [0, 2] rfl ?_
    exact lb_X9_learns_234 C hr hz hρ  h
  · replace h := (if_neg c221).symm.trans h
    refine g_iload_n C dX9_learns_224 rfl 1 rfl ?_
    refine g_iconst (v := (3 : Int32)) C dX9_learns_225 (by decide) ?_
    refine g_icmp_eq (tgt := 234) C dX9_learns_226 (by decide) (fun c226 => ?_) (fun c226 => ?_)
    · replace h := (if_pos c226).symm.trans h
      refine g_lv [0, 2] rfl ?_
      exact lb_X9_learns_234 C hr hz hρ  h
    · replace h := (if_neg c226).symm.trans h
      refine g_iload_n C dX9_learns_229 rfl 1 rfl ?_
      refine g_iconst (v := (4 : Int32)) C dX9_learns_230 (by decide) ?_
      refine g_icmp_ne (tgt := 238) C dX9_learns_231 (by decide) (fun c231 => ?_) (fun c231 => ?_)
      · replace h := (if_neg c231).symm.trans h
        refine g_iconst (v := (0 : Int32)) C dX9_learns_238 (by decide) ?_
        refine g_lv [0, 2] rfl ?_
        exact lb_X9_learns_239 C hr hz hρ  h
      · replace h := (if_pos c231).symm.trans h
        refine g_lv [0, 2] rfl ?_
        exact lb_X9_learns_234 C hr hz hρ  h
noncomputable def b_X9_learns_182  (w : Nat) (a : AS) (x1 x2 x3 : Int32) : Option (AS × Int32) := (if x2 = (6 : Int32) then (bif ixB x1 16384 then bif ixB (a 16 x1.toNatClampNeg) 200 then (if (a 42 (a 16 x1.toNatClampNeg).toNatClampNeg) = (0 : Int32) then (b_X9_learns_219  w a x2 x3) else (yl (up2 a 41 (a 16 x1.toNatClampNeg).toNatClampNeg (a 17 x1.toNatClampNeg)) (fun a9 => b_X9_learns_219  w a9 x2 x3))) else none else none) else (b_X9_learns_219  w a x2 x3))
set_option maxHeartbeats 4000000 in
set_option maxRecDepth 100000 in
theorem lb_X9_learns_182 {p : Program} {l : Launch} {e : Env} {s : State} {m : MethodId} {args : Array Value} {below : List Frame} {meth : Method} {c : Code} {D : va_G} {E : Nat → ClassId} {sz : Nat} {M : Nat → Nat → Nat → Int32} {a0 : AS} {ρ : YR} {w : Nat} {r0 : AS × Int32} (C : cx p s m args meth c D E (Aof (mx M a0, ρ) [] s.heap.size) cX9_learns 5 "TradeLineModel") (hr : meth.sig.returnType = none) (hz : s.heap.size = sz) (hρ : rsh ρ) {a : AS} {x1 x2 x3 : Int32}   (h : b_X9_learns_182  w a x1 x2 x3 = some r0) : G p l e ({ frames := 1, cells := 0, slots := 0, locals := 24 } : Room) s m args below meth c D E (Aof (mx M a0, ρ) [] s.heap.size) 5 (MQ below (cQ D E sz (mx M a0, ρ) [] (pV (fun u => u = ((mx M r0.1, ρ), [])))) args s 0 0 (Aof (mx M a0, ρ) [] s.heap.size)) (mx M a, ρ) [] 0 0 182 [(0, .ref (ρ.2.2.2 40 0)), (1, .int x1), (2, .int x2), (3, .int x3)] [] := by
  unfold b_X9_learns_182 at h
  refine g_iload_n C dX9_learns_182 rfl 2 rfl ?_
  refine g_bipush (v := (6 : Int32)) C dX9_learns_183 (by decide) ?_
  refine g_icmp_ne (tgt := 219) C dX9_learns_185 (by decide) (fun c185 => ?_) (fun c185 => ?_)
  · replace h := (if_neg c185).symm.trans h
    refine g_lv [0, 2, 3] rfl ?_
    exact lb_X9_learns_219 C hr hz hρ  h
  · replace h := (if_pos c185).symm.trans h
    refine g_aload_n C dX9_learns_188 rfl 0 rfl ?_
    refine g_get (k := 40) (i := 0) (ref := "TradeLineModel") (v := .ref (ρ.2.2.2 (40 + 42) 0)) C rfl (lvY0 hρ) rfl rfl inGX9 42 (by decide) gw_1371 (fun _ h => h) rfl dX9_learns_189 ?_
    refine g_aload_n C dX9_learns_192 rfl 0 rfl ?_
    refine g_get (k := 40) (i := 0) (ref := "TradeLineModel") (v := .ref (ρ.2.2.2 (40 + 16) 0)) C rfl (lvY0 hρ) rfl rfl inGX9 16 (by decide) gw_1345 (fun _ h => h) rfl dX9_learns_193 ?_
    refine g_iload_n C dX9_learns_196 rfl 1 rfl ?_
    obtain ⟨g7, h⟩ := of_guard h
    refine q_iald C hρ (j := 16) (N := 16384) (List.mem_of_getElem? (i := 13) rfl) rfl rfl g7 dX9_learns_197 ?_
    obtain ⟨g8, h⟩ := of_guard h
    refine q_zald C hρ (j := 42) (N := 200) (List.mem_of_getElem? (i := 36) rfl) rfl rfl g8 dX9_learns_198 ?_
    refine g_if_eq (tgt := 219) C dX9_learns_199 (by decide) (fun c199 => ?_) (fun c199 => ?_)
    · replace h := (if_pos c199).symm.trans h
      refine g_lv [0, 2, 3] rfl ?_
      exact lb_X9_learns_219 C hr hz hρ  h
    · replace h := (if_neg c199).symm.trans h
      refine g_aload_n C dX9_learns_202 rfl 0 rfl ?_
      refine g_get (k := 40) (i := 0) (ref := "TradeLineModel") (v := .ref (ρ.2.2.2 (40 + 41) 0)) C rfl (lvY0 hρ) rfl rfl inGX9 41 (by decide) gw_1370 (fun _ h => h) rfl dX9_learns_203 ?_
      refine g_aload_n C dX9_learns_206 rfl 0 rfl ?_
      refine g_get (k := 40) (i := 0) (ref := "TradeLineModel") (v := .ref (ρ.2.2.2 (40 + 16) 0)) C rfl (lvY0 hρ) rfl rfl inGX9 16 (by decide) gw_1345 (fun _ h => h) rfl dX9_learns_207 ?_
      refine g_iload_n C dX9_learns_210 rfl 1 rfl ?_
      refine q_iald C hρ (j := 16) (N := 16384) (List.mem_of_getElem? (i := 13) rfl) rfl rfl g7 dX9_learns_211 ?_
      refine g_aload_n C dX9_learns_212 rfl 0 rfl ?_
      refine g_get (k := 40) (i := 0) (ref := "TradeLineModel") (v := .ref (ρ.2.2.2 (40 + 17) 0)) C rfl (lvY0 hρ) rfl rfl inGX9 17 (by decide) gw_1346 (fun _ h => h) rfl dX9_learns_213 ?_
      refine g_iload_n C dX9_learns_216 rfl 1 rfl ?_
      refine q_iald C hρ (j := 17) (N := 16384) (List.mem_of_getElem? (i := 14) rfl) rfl rfl g7 dX9_learns_217 ?_
      refine q_iast C hρ (j := 41) (N := 200) (List.mem_of_getElem? (i := 35) rfl) rfl rfl g8 dX9_learns_218 (fun a9 ea9 => ?_)
      replace h := yl_of h ea9
      refine g_lv [0, 2, 3] rfl ?_
      exact lb_X9_learns_219 C hr hz hρ  h
noncomputable def f_X9_learns  (w : Nat) (a : AS) (x1 : Int32) : Option (AS × Int32) := bif ixB x1 16384 then yl ((a 14 x1.toNatClampNeg)) (fun t2 => yl ((a 15 x1.toNatClampNeg)) (fun t3 => (if t2 = (0 : Int32) then (bif ixB t3 80 then yl (up2 a 24 t3.toNatClampNeg (vp_nar .boolean (1 : Int32))) (fun a24 => b_X9_learns_219  w a24 t2 t3) else none) else ((if t2 = (1 : Int32) then ((f_X9_knows w a t3 (a 16 x1.toNatClampNeg) (a 17 x1.toNatClampNeg)).bind (fun v22 => b_X9_learns_219  w v22.1 t2 t3)) else ((if t2 = (2 : Int32) then (bif ixB t3 80 then yl (up2 a 28 t3.toNatClampNeg ((a 28 t3.toNatClampNeg) + (a 16 x1.toNatClampNeg))) (fun a21 => b_X9_learns_219  w a21 t2 t3) else none) else ((if t2 = (3 : Int32) then (bif ixB t3 80 then yl (up2 a 25 t3.toNatClampNeg (a 16 x1.toNatClampNeg)) (fun a18 => yl (up2 a18 26 t3.toNatClampNeg (a18 17 x1.toNatClampNeg)) (fun a19 => b_X9_learns_219  w a19 t2 t3)) else none) else ((if t2 = (5 : Int32) then (bif ixB (a 16 x1.toNatClampNeg) 200 then (if (a 42 (a 16 x1.toNatClampNeg).toNatClampNeg) = (0 : Int32) then (b_X9_learns_182  w a x1 t2 t3) else (yl (up2 a 43 (a 16 x1.toNatClampNeg).toNatClampNeg (vp_nar .boolean (1 : Int32))) (fun a11 => bif ixB t3 80 then bif ixB (a11 16 x1.toNatClampNeg) 100 then yl (up2 a11 27 t3.toNatClampNeg ((a11 27 t3.toNatClampNeg) - (a11 39 (a11 16 x1.toNatClampNeg).toNatClampNeg))) (fun a14 => bif ixB (a14 16 x1.toNatClampNeg) 100 then yl (up2 a14 28 t3.toNatClampNeg ((a14 28 t3.toNatClampNeg) + (a14 39 (a14 16 x1.toNatClampNeg).toNatClampNeg))) (fun a16 => b_X9_learns_219  w a16 t2 t3) else none) else none else none))) else none) else (b_X9_learns_182  w a x1 t2 t3)))))))))))) else none
set_option maxHeartbeats 4000000 in
set_option maxRecDepth 100000 in
theorem lb_X9_learns_0 {p : Program} {l : Launch} {e : Env} {s : State} {m : MethodId} {args : Array Value} {below : List Frame} {meth : Method} {c : Code} {D : va_G} {E : Nat → ClassId} {sz : Nat} {M : Nat → Nat → Nat → Int32} {a0 : AS} {ρ : YR} {w : Nat} {r0 : AS × Int32} (C : cx p s m args meth c D E (Aof (mx M a0, ρ) [] s.heap.size) cX9_learns 5 "TradeLineModel") (hr : meth.sig.returnType = none) (hz : s.heap.size = sz) (hρ : rsh ρ) {a : AS} {x1 : Int32}   (h : f_X9_learns  w a x1 = some r0) : G p l e ({ frames := 1, cells := 0, slots := 0, locals := 24 } : Room) s m args below meth c D E (Aof (mx M a0, ρ) [] s.heap.size) 5 (MQ below (cQ D E sz (mx M a0, ρ) [] (pV (fun u => u = ((mx M r0.1, ρ), [])))) args s 0 0 (Aof (mx M a0, ρ) [] s.heap.size)) (mx M a, ρ) [] 0 0 0 [(0, .ref (ρ.2.2.2 40 0)), (1, .int x1)] [] := by
  unfold f_X9_learns at h
  refine g_aload_n C dX9_learns_0 rfl 0 rfl ?_
  refine g_get (k := 40) (i := 0) (ref := "TradeLineModel") (v := .ref (ρ.2.2.2 (40 + 14) 0)) C rfl (lvY0 hρ) rfl rfl inGX9 14 (by decide) gw_1343 (fun _ h => h) rfl dX9_learns_1 ?_
  refine g_iload_n C dX9_learns_4 rfl 1 rfl ?_
  obtain ⟨g1, h⟩ := of_guard h
  refine q_iald C hρ (j := 14) (N := 16384) (List.mem_of_getElem? (i := 11) rfl) rfl rfl g1 dX9_learns_5 ?_
  refine q_topi (fun t2 et2 => ?_)
  replace h := yl_of h et2
  refine g_istore_n (lv' := [(2, .int t2), (0, .ref (ρ.2.2.2 40 0)), (1, .int x1)]) C dX9_learns_6 rfl (by decide) rfl ?_
  refine g_aload_n C dX9_learns_7 rfl 1 rfl ?_
  refine g_get (k := 40) (i := 0) (ref := "TradeLineModel") (v := .ref (ρ.2.2.2 (40 + 15) 0)) C rfl (lvY0 hρ) rfl rfl inGX9 15 (by decide) gw_1344 (fun _ h => h) rfl dX9_learns_8 ?_
  refine g_iload_n C dX9_learns_11 rfl 2 rfl ?_
  refine q_iald C hρ (j := 15) (N := 16384) (List.mem_of_getElem? (i := 12) rfl) rfl rfl g1 dX9_learns_12 ?_
  refine q_topi (fun t3 et3 => ?_)
  replace h := yl_of h et3
  refine g_istore_n (lv' := [(3, .int t3), (2, .int t2), (0, .ref (ρ.2.2.2 40 0)), (1, .int x1)]) C dX9_learns_13 rfl (by decide) rfl ?_
  refine g_iload_n C dX9_learns_14 rfl 1 rfl ?_
  refine g_if_ne (tgt := 28) C dX9_learns_15 (by decide) (fun c15 => ?_) (fun c15 => ?_)
  · replace h := (if_neg c15).symm.trans h
    refine g_iload_n C dX9_learns_28 rfl 1 rfl ?_
    refine g_iconst (v := (1 : Int32)) C dX9_learns_29 (by decide) ?_
    refine g_icmp_ne (tgt := 53) C dX9_learns_30 (by decide) (fun c30 => ?_) (fun c30 => ?_)
    · replace h := (if_neg c30).symm.trans h
      refine g_iload_n C dX9_learns_53 rfl 1 rfl ?_
      refine g_iconst (v := (2 : Int32)) C dX9_learns_54 (by decide) ?_
      refine g_icmp_ne (tgt := 76) C dX9_learns_55 (by decide) (fun c55 => ?_) (fun c55 => ?_)
      · replace h := (if_neg c55).symm.trans h
        refine g_iload_n C dX9_learns_76 rfl 1 rfl ?_
        refine g_iconst (v := (3 : Int32)) C dX9_learns_77 (by decide) ?_
        refine g_icmp_ne (tgt := 108) C dX9_learns_78 (by decide) (fun c78 => ?_) (fun c78 => ?_)
        · replace h := (if_neg c78).symm.trans h
          refine g_iload_n C dX9_learns_108 rfl 1 rfl ?_
          refine g_iconst (v := (5 : Int32)) C dX9_learns_109 (by decide) ?_
          refine g_icmp_ne (tgt := 182) C dX9_learns_110 (by decide) (fun c110 => ?_) (fun c110 => ?_)
          · replace h := (if_neg c110).symm.trans h
            refine g_lv [2, 3, 1, 0] rfl ?_
            exact lb_X9_learns_182 C hr hz hρ  h
          · replace h := (if_pos c110).symm.trans h
            refine g_aload_n C dX9_learns_113 rfl 2 rfl ?_
            refine g_get (k := 40) (i := 0) (ref := "TradeLineModel") (v := .ref (ρ.2.2.2 (40 + 42) 0)) C rfl (lvY0 hρ) rfl rfl inGX9 42 (by decide) gw_1371 (fun _ h => h) rfl dX9_learns_114 ?_
            refine g_aload_n C dX9_learns_117 rfl 2 rfl ?_
            refine g_get (k := 40) (i := 0) (ref := "TradeLineModel") (v := .ref (ρ.2.2.2 (40 + 16) 0)) C rfl (lvY0 hρ) rfl rfl inGX9 16 (by decide) gw_1345 (fun _ h => h) rfl dX9_learns_118 ?_
            refine g_iload_n C dX9_learns_121 rfl 3 rfl ?_
            refine q_iald C hρ (j := 16) (N := 16384) (List.mem_of_getElem? (i := 13) rfl) rfl rfl g1 dX9_learns_122 ?_
            obtain ⟨g10, h⟩ := of_guard h
            refine q_zald C hρ (j := 42) (N := 200) (List.mem_of_getElem? (i := 36) rfl) rfl rfl g10 dX9_learns_123 ?_
            refine g_if_eq (tgt := 182) C dX9_learns_124 (by decide) (fun c124 => ?_) (fun c124 => ?_)
            · replace h := (if_pos c124).symm.trans h
              refine g_lv [2, 3, 1, 0] rfl ?_
              exact lb_X9_learns_182 C hr hz hρ  h
            · replace h := (if_neg c124).symm.trans h
              refine g_aload_n C dX9_learns_127 rfl 2 rfl ?_
              refine g_get (k := 40) (i := 0) (ref := "TradeLineModel") (v := .ref (ρ.2.2.2 (40 + 43) 0)) C rfl (lvY0 hρ) rfl rfl inGX9 43 (by decide) gw_1372 (fun _ h => h) rfl dX9_learns_128 ?_
              refine g_aload_n C dX9_learns_131 rfl 2 rfl ?_
              refine g_get (k := 40) (i := 0) (ref := "TradeLineModel") (v := .ref (ρ.2.2.2 (40 + 16) 0)) C rfl (lvY0 hρ) rfl rfl inGX9 16 (by decide) gw_1345 (fun _ h => h) rfl dX9_learns_132 ?_
              refine g_iload_n C dX9_learns_135 rfl 3 rfl ?_
              refine q_iald C hρ (j := 16) (N := 16384) (List.mem_of_getElem? (i := 13) rfl) rfl rfl g1 dX9_learns_136 ?_
              refine g_iconst (v := (1 : Int32)) C dX9_learns_137 (by decide) ?_
              refine q_zast C hρ (j := 43) (N := 200) (List.mem_of_getElem? (i := 37) rfl) rfl rfl g10 dX9_learns_138 (fun a11 ea11 => ?_)
              replace h := yl_of h ea11
              refine g_aload_n C dX9_learns_139 rfl 2 rfl ?_
              refine g_get (k := 40) (i := 0) (ref := "TradeLineModel") (v := .ref (ρ.2.2.2 (40 + 27) 0)) C rfl (lvY0 hρ) rfl rfl inGX9 27 (by decide) gw_1356 (fun _ h => h) rfl dX9_learns_140 ?_
              refine g_iload_n C dX9_learns_143 rfl 0 rfl ?_
              refine g_dup2 C dX9_learns_144 rfl rfl ?_
              obtain ⟨g12, h⟩ := of_guard h
              refine q_iald C hρ (j := 27) (N := 80) (List.mem_of_getElem? (i := 23) rfl) rfl rfl g12 dX9_learns_145 ?_
              refine g_aload_n C dX9_learns_146 rfl 2 rfl ?_
              refine g_get (k := 40) (i := 0) (ref := "TradeLineModel") (v := .ref (ρ.2.2.2 (40 + 39) 0)) C rfl (lvY0 hρ) rfl rfl inGX9 39 (by decide) gw_1368 (fun _ h => h) rfl dX9_learns_147 ?_
              refine g_aload_n C dX9_learns_150 rfl 2 rfl ?_
              refine g_get (k := 40) (i := 0) (ref := "TradeLineModel") (v := .ref (ρ.2.2.2 (40 + 16) 0)) C rfl (lvY0 hρ) rfl rfl inGX9 16 (by decide) gw_1345 (fun _ h => h) rfl dX9_learns_151 ?_
              refine g_iload_n C dX9_learns_154 rfl 3 rfl ?_
              refine q_iald C hρ (j := 16) (N := 16384) (List.mem_of_getElem? (i := 13) rfl) rfl rfl g1 dX9_learns_155 ?_
              obtain ⟨g13, h⟩ := of_guard h
              refine q_iald C hρ (j := 39) (N := 100) (List.mem_of_getElem? (i := 33) rfl) rfl rfl g13 dX9_learns_156 ?_
              refine g_isub C dX9_learns_157 ?_
              refine q_iast C hρ (j := 27) (N := 80) (List.mem_of_getElem? (i := 23) rfl) rfl rfl g12 dX9_learns_158 (fun a14 ea14 => ?_)
              replace h := yl_of h ea14
              refine g_aload_n C dX9_learns_159 rfl 2 rfl ?_
              refine g_get (k := 40) (i := 0) (ref := "TradeLineModel") (v := .ref (ρ.2.2.2 (40 + 28) 0)) C rfl (lvY0 hρ) rfl rfl inGX9 28 (by decide) gw_1357 (fun _ h => h) rfl dX9_learns_160 ?_
              refine g_iload_n C dX9_learns_163 rfl 0 rfl ?_
              refine g_dup2 C dX9_learns_164 rfl rfl ?_
              refine q_iald C hρ (j := 28) (N := 80) (List.mem_of_getElem? (i := 24) rfl) rfl rfl g12 dX9_learns_165 ?_
              refine g_aload_n C dX9_learns_166 rfl 2 rfl ?_
              refine g_get (k := 40) (i := 0) (ref := "TradeLineModel") (v := .ref (ρ.2.2.2 (40 + 39) 0)) C rfl (lvY0 hρ) rfl rfl inGX9 39 (by decide) gw_1368 (fun _ h => h) rfl dX9_learns_167 ?_
              refine g_aload_n C dX9_learns_170 rfl 2 rfl ?_
              refine g_get (k := 40) (i := 0) (ref := "TradeLineModel") (v := .ref (ρ.2.2.2 (40 + 16) 0)) C rfl (lvY0 hρ) rfl rfl inGX9 16 (by decide) gw_1345 (fun _ h => h) rfl dX9_learns_171 ?_
              refine g_iload_n C dX9_learns_174 rfl 3 rfl ?_
              refine q_iald C hρ (j := 16) (N := 16384) (List.mem_of_getElem? (i := 13) rfl) rfl rfl g1 dX9_learns_175 ?_
              obtain ⟨g15, h⟩ := of_guard h
              refine q_iald C hρ (j := 39) (N := 100) (List.mem_of_getElem? (i := 33) rfl) rfl rfl g15 dX9_learns_176 ?_
              refine g_iadd C dX9_learns_177 ?_
              refine q_iast C hρ (j := 28) (N := 80) (List.mem_of_getElem? (i := 24) rfl) rfl rfl g12 dX9_learns_178 (fun a16 ea16 => ?_)
              replace h := yl_of h ea16
              refine g_goto (tgt := 219) C dX9_learns_179 (by decide) ?_
              refine g_lv [2, 1, 0] rfl ?_
              exact lb_X9_learns_219 C hr hz hρ  h
        · replace h := (if_pos c78).symm.trans h
          refine g_aload_n C dX9_learns_81 rfl 2 rfl ?_
          refine g_get (k := 40) (i := 0) (ref := "TradeLineModel") (v := .ref (ρ.2.2.2 (40 + 25) 0)) C rfl (lvY0 hρ) rfl rfl inGX9 25 (by decide) gw_1354 (fun _ h => h) rfl dX9_learns_82 ?_
          refine g_iload_n C dX9_learns_85 rfl 0 rfl ?_
          refine g_aload_n C dX9_learns_86 rfl 2 rfl ?_
          refine g_get (k := 40) (i := 0) (ref := "TradeLineModel") (v := .ref (ρ.2.2.2 (40 + 16) 0)) C rfl (lvY0 hρ) rfl rfl inGX9 16 (by decide) gw_1345 (fun _ h => h) rfl dX9_learns_87 ?_
          refine g_iload_n C dX9_learns_90 rfl 3 rfl ?_
          refine q_iald C hρ (j := 16) (N := 16384) (List.mem_of_getElem? (i := 13) rfl) rfl rfl g1 dX9_learns_91 ?_
          obtain ⟨g17, h⟩ := of_guard h
          refine q_iast C hρ (j := 25) (N := 80) (List.mem_of_getElem? (i := 21) rfl) rfl rfl g17 dX9_learns_92 (fun a18 ea18 => ?_)
          replace h := yl_of h ea18
          refine g_aload_n C dX9_learns_93 rfl 2 rfl ?_
          refine g_get (k := 40) (i := 0) (ref := "TradeLineModel") (v := .ref (ρ.2.2.2 (40 + 26) 0)) C rfl (lvY0 hρ) rfl rfl inGX9 26 (by decide) gw_1355 (fun _ h => h) rfl dX9_learns_94 ?_
          refine g_iload_n C dX9_learns_97 rfl 0 rfl ?_
          refine g_aload_n C dX9_learns_98 rfl 2 rfl ?_
          refine g_get (k := 40) (i := 0) (ref := "TradeLineModel") (v := .ref (ρ.2.2.2 (40 + 17) 0)) C rfl (lvY0 hρ) rfl rfl inGX9 17 (by decide) gw_1346 (fun _ h => h) rfl dX9_learns_99 ?_
          refine g_iload_n C dX9_learns_102 rfl 3 rfl ?_
          refine q_iald C hρ (j := 17) (N := 16384) (List.mem_of_getElem? (i := 14) rfl) rfl rfl g1 dX9_learns_103 ?_
          refine q_iast C hρ (j := 26) (N := 80) (List.mem_of_getElem? (i := 22) rfl) rfl rfl g17 dX9_learns_104 (fun a19 ea19 => ?_)
          replace h := yl_of h ea19
          refine g_goto (tgt := 219) C dX9_learns_105 (by decide) ?_
          refine g_lv [2, 1, 0] rfl ?_
          exact lb_X9_learns_219 C hr hz hρ  h
      · replace h := (if_pos c55).symm.trans h
        refine g_aload_n C dX9_learns_58 rfl 2 rfl ?_
        refine g_get (k := 40) (i := 0) (ref := "TradeLineModel") (v := .ref (ρ.2.2.2 (40 + 28) 0)) C rfl (lvY0 hρ) rfl rfl inGX9 28 (by decide) gw_1357 (fun _ h => h) rfl dX9_learns_59 ?_
        refine g_iload_n C dX9_learns_62 rfl 0 rfl ?_
        refine g_dup2 C dX9_learns_63 rfl rfl ?_
        obtain ⟨g20, h⟩ := of_guard h
        refine q_iald C hρ (j := 28) (N := 80) (List.mem_of_getElem? (i := 24) rfl) rfl rfl g20 dX9_learns_64 ?_
        refine g_aload_n C dX9_learns_65 rfl 2 rfl ?_
        refine g_get (k := 40) (i := 0) (ref := "TradeLineModel") (v := .ref (ρ.2.2.2 (40 + 16) 0)) C rfl (lvY0 hρ) rfl rfl inGX9 16 (by decide) gw_1345 (fun _ h => h) rfl dX9_learns_66 ?_
        refine g_iload_n C dX9_learns_69 rfl 3 rfl ?_
        refine q_iald C hρ (j := 16) (N := 16384) (List.mem_of_getElem? (i := 13) rfl) rfl rfl g1 dX9_learns_70 ?_
        refine g_iadd C dX9_learns_71 ?_
        refine q_iast C hρ (j := 28) (N := 80) (List.mem_of_getElem? (i := 24) rfl) rfl rfl g20 dX9_learns_72 (fun a21 ea21 => ?_)
        replace h := yl_of h ea21
        refine g_goto (tgt := 219) C dX9_learns_73 (by decide) ?_
        refine g_lv [2, 1, 0] rfl ?_
        exact lb_X9_learns_219 C hr hz hρ  h
    · replace h := (if_pos c30).symm.trans h
      refine g_aload_n C dX9_learns_33 rfl 2 rfl ?_
      refine g_iload_n C dX9_learns_34 rfl 0 rfl ?_
      refine g_aload_n C dX9_learns_35 rfl 2 rfl ?_
      refine g_get (k := 40) (i := 0) (ref := "TradeLineModel") (v := .ref (ρ.2.2.2 (40 + 16) 0)) C rfl (lvY0 hρ) rfl rfl inGX9 16 (by decide) gw_1345 (fun _ h => h) rfl dX9_learns_36 ?_
      refine g_iload_n C dX9_learns_39 rfl 3 rfl ?_
      refine q_iald C hρ (j := 16) (N := 16384) (List.mem_of_getElem? (i := 13) rfl) rfl rfl g1 dX9_learns_40 ?_
      refine g_aload_n C dX9_learns_41 rfl 2 rfl ?_
      refine g_get (k := 40) (i := 0) (ref := "TradeLineModel") (v := .ref (ρ.2.2.2 (40 + 17) 0)) C rfl (lvY0 hρ) rfl rfl inGX9 17 (by decide) gw_1346 (fun _ h => h) rfl dX9_learns_42 ?_
      refine g_iload_n C dX9_learns_45 rfl 3 rfl ?_
      refine q_iald C hρ (j := 17) (N := 16384) (List.mem_of_getElem? (i := 14) rfl) rfl rfl g1 dX9_learns_46 ?_
      obtain ⟨v22, hv22, h⟩ := bind_of h
      refine g_cVv (n := 3) (exc := []) (exr := []) C [_, _, _] _ rfl rfl [] [] rfl rfl rfl rfl (fun _ h => absurd h (by simp)) (fun _ h => absurd h (by simp)) (fun _ h => absurd h (by simp)) (fun sz => k_X9_knows l M ρ hρ w _ _ _ _ _ hv22 D E sz) rfl gw_1535 gw_9 gw_1532 gw_1534 gs_52 ⟨by decide +kernel, by decide +kernel, by decide +kernel⟩ ⟨rfl, rfl⟩ ⟨Nat.le_of_ble_eq_true rfl, Nat.le_of_ble_eq_true rfl⟩ (rcvT (lvY0 hρ) rfl rfl rfl) (Nat.le_of_ble_eq_true rfl) dX9_learns_47 ⟨by decide, by decide⟩ (fun u hp hx => ?_)
      obtain rfl := hp
      try dsimp only [List.append_nil]
      refine g_goto (tgt := 219) C dX9_learns_50 (by decide) ?_
      refine g_lv [2, 1, 0] rfl ?_
      exact lb_X9_learns_219 C hr hz hρ  h
  · replace h := (if_pos c15).symm.trans h
    refine g_aload_n C dX9_learns_18 rfl 2 rfl ?_
    refine g_get (k := 40) (i := 0) (ref := "TradeLineModel") (v := .ref (ρ.2.2.2 (40 + 24) 0)) C rfl (lvY0 hρ) rfl rfl inGX9 24 (by decide) gw_1353 (fun _ h => h) rfl dX9_learns_19 ?_
    refine g_iload_n C dX9_learns_22 rfl 0 rfl ?_
    refine g_iconst (v := (1 : Int32)) C dX9_learns_23 (by decide) ?_
    obtain ⟨g23, h⟩ := of_guard h
    refine q_zast C hρ (j := 24) (N := 80) (List.mem_of_getElem? (i := 20) rfl) rfl rfl g23 dX9_learns_24 (fun a24 ea24 => ?_)
    replace h := yl_of h ea24
    refine g_goto (tgt := 219) C dX9_learns_25 (by decide) ?_
    refine g_lv [2, 1, 0] rfl ?_
    exact lb_X9_learns_219 C hr hz hρ  h
theorem k_X9_learns (l : Launch) (M : Nat → Nat → Nat → Int32) (ρ : YR) (hρ : rsh ρ) (w : Nat) (a : AS) (x1 : Int32) (r0 : AS × Int32) (h : f_X9_learns w a x1 = some r0) : ∀ D E sz, Met l yX9_learns gwX9_learns ({ frames := 1, cells := 0, slots := 0, locals := 24 } : Room) (cP D E sz (mx M a, ρ) [] [.ref (ρ.2.2.2 40 0), .int x1]) (cQ D E sz (mx M a, ρ) [] (pV (fun u => u = ((mx M r0.1, ρ), [])))) (0) (0) (Aof (mx M a, ρ) [] sz) := by
  intro D E sz
  refine g_of (cc := cX9_learns) (maxL := 5) (ret := none) (own := "TradeLineModel") (by decide) rfl rfl (Nat.le_of_ble_eq_true rfl) ?_
  intro p e s m args below meth c C hr hin hz ha hwr
  refine g_lv [0, 1] rfl ?_
  exact lb_X9_learns_0 C hr hz hρ h
noncomputable def f_X9_comesBehind  (w : Nat) (a : AS) (x1 : Int32) : Option (AS × Int32) := bif ixB x1 40 then yl (up2 a 31 x1.toNatClampNeg (a 0 32)) (fun a2 => yl (up2 a2 0 32 ((a2 0 32) + (1 : Int32))) (fun a3 => some (a3, (0 : Int32)))) else none
set_option maxHeartbeats 4000000 in
set_option maxRecDepth 100000 in
theorem lb_X9_comesBehind_0 {p : Program} {l : Launch} {e : Env} {s : State} {m : MethodId} {args : Array Value} {below : List Frame} {meth : Method} {c : Code} {D : va_G} {E : Nat → ClassId} {sz : Nat} {M : Nat → Nat → Nat → Int32} {a0 : AS} {ρ : YR} {w : Nat} {r0 : AS × Int32} (C : cx p s m args meth c D E (Aof (mx M a0, ρ) [] s.heap.size) cX9_comesBehind 2 "TradeLineModel") (hr : meth.sig.returnType = none) (hz : s.heap.size = sz) (hρ : rsh ρ) {a : AS} {x1 : Int32}   (h : f_X9_comesBehind  w a x1 = some r0) : G p l e ({ frames := 0, cells := 0, slots := 0, locals := 0 } : Room) s m args below meth c D E (Aof (mx M a0, ρ) [] s.heap.size) 2 (MQ below (cQ D E sz (mx M a0, ρ) [] (pV (fun u => u = ((mx M r0.1, ρ), [])))) args s 0 0 (Aof (mx M a0, ρ) [] s.heap.size)) (mx M a, ρ) [] 0 0 0 [(0, .ref (ρ.2.2.2 40 0)), (1, .int x1)] [] := by
  unfold f_X9_comesBehind at h
  refine g_aload_n C dX9_comesBehind_0 rfl 0 rfl ?_
  refine g_get (k := 40) (i := 0) (ref := "TradeLineModel") (v := .ref (ρ.2.2.2 (40 + 31) 0)) C rfl (lvY0 hρ) rfl rfl inGX9 31 (by decide) gw_1360 (fun _ h => h) rfl dX9_comesBehind_1 ?_
  refine g_iload_n C dX9_comesBehind_4 rfl 1 rfl ?_
  refine g_aload_n C dX9_comesBehind_5 rfl 0 rfl ?_
  refine g_get (k := 40) (i := 0) (ref := "TradeLineModel") (v := .int (a 0 32)) C rfl (lvY0 hρ) rfl rfl inGX9 32 (by decide) gw_1361 (fun _ h => h) rfl dX9_comesBehind_6 ?_
  obtain ⟨g1, h⟩ := of_guard h
  refine q_iast C hρ (j := 31) (N := 40) (List.mem_of_getElem? (i := 27) rfl) rfl rfl g1 dX9_comesBehind_9 (fun a2 ea2 => ?_)
  replace h := yl_of h ea2
  refine g_aload_n C dX9_comesBehind_10 rfl 0 rfl ?_
  refine g_dup C dX9_comesBehind_11 rfl ?_
  refine g_get (k := 40) (i := 0) (ref := "TradeLineModel") (v := .int (a2 0 32)) C rfl (lvY0 hρ) rfl rfl inGX9 32 (by decide) gw_1361 (fun _ h => h) rfl dX9_comesBehind_12 ?_
  refine g_iconst (v := (1 : Int32)) C dX9_comesBehind_15 (by decide) ?_
  refine g_iadd C dX9_comesBehind_16 ?_
  refine q_put C hρ (j := 32) (by decide) gw_1361 rfl rfl (tyX9_ok 32 (by decide)) rfl rfl (by simp [fvs, up1]) dX9_comesBehind_17 (fun a3 ea3 => ?_)
  replace h := yl_of h ea3
  obtain rfl := Option.some.inj h
  exact g_vret C hr hz ⟨rfl, rfl, fun _ => rfl, fun _ => rfl⟩ rfl (fun j x h => by simp at h) dX9_comesBehind_20
theorem k_X9_comesBehind (l : Launch) (M : Nat → Nat → Nat → Int32) (ρ : YR) (hρ : rsh ρ) (w : Nat) (a : AS) (x1 : Int32) (r0 : AS × Int32) (h : f_X9_comesBehind w a x1 = some r0) : ∀ D E sz, Met l yX9_comesBehind gwX9_comesBehind ({ frames := 0, cells := 0, slots := 0, locals := 0 } : Room) (cP D E sz (mx M a, ρ) [] [.ref (ρ.2.2.2 40 0), .int x1]) (cQ D E sz (mx M a, ρ) [] (pV (fun u => u = ((mx M r0.1, ρ), [])))) (0) (0) (Aof (mx M a, ρ) [] sz) := by
  intro D E sz
  refine g_of (cc := cX9_comesBehind) (maxL := 2) (ret := none) (own := "TradeLineModel") (by decide) rfl rfl (Nat.le_of_ble_eq_true rfl) ?_
  intro p e s m args below meth c C hr hin hz ha hwr
  refine g_lv [0, 1] rfl ?_
  exact lb_X9_comesBehind_0 C hr hz hρ h
noncomputable def b_X9_isBetter_45  (w : Nat) (a : AS) (x3 s0 : Int32) : Option (Int32) := (if s0 = x3 then (some (0 : Int32)) else (some (1 : Int32)))
set_option maxHeartbeats 4000000 in
set_option maxRecDepth 100000 in
theorem lb_X9_isBetter_45 {p : Program} {l : Launch} {e : Env} {s : State} {m : MethodId} {args : Array Value} {below : List Frame} {meth : Method} {c : Code} {D : va_G} {E : Nat → ClassId} {sz : Nat} {M : Nat → Nat → Nat → Int32} {a : AS} {ρ : YR} {w : Nat} {r0 : Int32} (C : cx p s m args meth c D E (Aof (mx M a, ρ) [] s.heap.size) cX9_isBetter 4 "TradeLineModel") (hr : meth.sig.returnType = (some .boolean)) (hz : s.heap.size = sz) (hρ : rsh ρ) {x3 s0 : Int32}   (h : b_X9_isBetter_45  w a x3 s0 = some r0) : G p l e ({ frames := 0, cells := 0, slots := 0, locals := 0 } : Room) s m args below meth c D E (Aof (mx M a, ρ) [] s.heap.size) 4 (MQ below (cQ D E sz (mx M a, ρ) [] (pI (fun r u => r = r0 ∧ u = ((mx M a, ρ), [])))) args s 0 0 (Aof (mx M a, ρ) [] s.heap.size)) (mx M a, ρ) [] 0 0 45 [(0, .ref (ρ.2.2.2 40 0)), (3, .int x3)] [.int s0] := by
  unfold b_X9_isBetter_45 at h
  refine g_iload_n C dX9_isBetter_45 rfl 1 rfl ?_
  refine g_icmp_eq (tgt := 53) C dX9_isBetter_46 (by decide) (fun c46 => ?_) (fun c46 => ?_)
  · replace h := (if_pos c46).symm.trans h
    refine g_iconst (v := (0 : Int32)) C dX9_isBetter_53 (by decide) ?_
    exact g_iret C hr rfl hz ⟨rfl, rfl, fun _ => rfl, fun _ => rfl⟩ ⟨Option.some.inj h, rfl⟩ (fun j x h => by simp at h) dX9_isBetter_54
  · replace h := (if_neg c46).symm.trans h
    refine g_iconst (v := (1 : Int32)) C dX9_isBetter_49 (by decide) ?_
    refine g_goto (tgt := 54) C dX9_isBetter_50 (by decide) ?_
    exact g_iret C hr rfl hz ⟨rfl, rfl, fun _ => rfl, fun _ => rfl⟩ ⟨Option.some.inj h, rfl⟩ (fun j x h => by simp at h) dX9_isBetter_54
noncomputable def b_X9_isBetter_20  (w : Nat) (a : AS) (x1 x2 x3 : Int32) : Option (Int32) := (if x2 = (-1 : Int32) then (some (1 : Int32)) else (bif ixB x1 6 then bif ixB x2 6 then (if (a 33 x2.toNatClampNeg) ≤ (a 33 x1.toNatClampNeg) then (b_X9_isBetter_45  w a x3 (0 : Int32)) else (b_X9_isBetter_45  w a x3 (1 : Int32))) else none else none))
set_option maxHeartbeats 4000000 in
set_option maxRecDepth 100000 in
theorem lb_X9_isBetter_20 {p : Program} {l : Launch} {e : Env} {s : State} {m : MethodId} {args : Array Value} {below : List Frame} {meth : Method} {c : Code} {D : va_G} {E : Nat → ClassId} {sz : Nat} {M : Nat → Nat → Nat → Int32} {a : AS} {ρ : YR} {w : Nat} {r0 : Int32} (C : cx p s m args meth c D E (Aof (mx M a, ρ) [] s.heap.size) cX9_isBetter 4 "TradeLineModel") (hr : meth.sig.returnType = (some .boolean)) (hz : s.heap.size = sz) (hρ : rsh ρ) {x1 x2 x3 : Int32}   (h : b_X9_isBetter_20  w a x1 x2 x3 = some r0) : G p l e ({ frames := 0, cells := 0, slots := 0, locals := 0 } : Room) s m args below meth c D E (Aof (mx M a, ρ) [] s.heap.size) 4 (MQ below (cQ D E sz (mx M a, ρ) [] (pI (fun r u => r = r0 ∧ u = ((mx M a, ρ), [])))) args s 0 0 (Aof (mx M a, ρ) [] s.heap.size)) (mx M a, ρ) [] 0 0 20 [(0, .ref (ρ.2.2.2 40 0)), (1, .int x1), (2, .int x2), (3, .int x3)] [] := by
  unfold b_X9_isBetter_20 at h
  refine g_iload_n C dX9_isBetter_20 rfl 2 rfl ?_
  refine g_iconst (v := (-1 : Int32)) C dX9_isBetter_21 (by decide) ?_
  refine g_icmp_eq (tgt := 49) C dX9_isBetter_22 (by decide) (fun c22 => ?_) (fun c22 => ?_)
  · replace h := (if_pos c22).symm.trans h
    refine g_iconst (v := (1 : Int32)) C dX9_isBetter_49 (by decide) ?_
    refine g_goto (tgt := 54) C dX9_isBetter_50 (by decide) ?_
    exact g_iret C hr rfl hz ⟨rfl, rfl, fun _ => rfl, fun _ => rfl⟩ ⟨Option.some.inj h, rfl⟩ (fun j x h => by simp at h) dX9_isBetter_54
  · replace h := (if_neg c22).symm.trans h
    refine g_aload_n C dX9_isBetter_25 rfl 0 rfl ?_
    refine g_get (k := 40) (i := 0) (ref := "TradeLineModel") (v := .ref (ρ.2.2.2 (40 + 33) 0)) C rfl (lvY0 hρ) rfl rfl inGX9 33 (by decide) gw_1362 (fun _ h => h) rfl dX9_isBetter_26 ?_
    refine g_iload_n C dX9_isBetter_29 rfl 1 rfl ?_
    obtain ⟨g1, h⟩ := of_guard h
    refine q_iald C hρ (j := 33) (N := 6) (List.mem_of_getElem? (i := 28) rfl) rfl rfl g1 dX9_isBetter_30 ?_
    refine g_aload_n C dX9_isBetter_31 rfl 0 rfl ?_
    refine g_get (k := 40) (i := 0) (ref := "TradeLineModel") (v := .ref (ρ.2.2.2 (40 + 33) 0)) C rfl (lvY0 hρ) rfl rfl inGX9 33 (by decide) gw_1362 (fun _ h => h) rfl dX9_isBetter_32 ?_
    refine g_iload_n C dX9_isBetter_35 rfl 2 rfl ?_
    obtain ⟨g2, h⟩ := of_guard h
    refine q_iald C hρ (j := 33) (N := 6) (List.mem_of_getElem? (i := 28) rfl) rfl rfl g2 dX9_isBetter_36 ?_
    refine g_icmp_ge (tgt := 44) C dX9_isBetter_37 (by decide) (fun c37 => ?_) (fun c37 => ?_)
    · replace h := (if_pos c37).symm.trans h
      refine g_iconst (v := (0 : Int32)) C dX9_isBetter_44 (by decide) ?_
      refine g_lv [0, 3] rfl ?_
      exact lb_X9_isBetter_45 C hr hz hρ  h
    · replace h := (if_neg c37).symm.trans h
      refine g_iconst (v := (1 : Int32)) C dX9_isBetter_40 (by decide) ?_
      refine g_goto (tgt := 45) C dX9_isBetter_41 (by decide) ?_
      refine g_lv [0, 3] rfl ?_
      exact lb_X9_isBetter_45 C hr hz hρ  h
noncomputable def f_X9_isBetter  (w : Nat) (a : AS) (x1 x2 x3 : Int32) : Option (Int32) := (if x2 = (-1 : Int32) then (b_X9_isBetter_20  w a x1 x2 x3) else (bif ixB x1 6 then bif ixB x2 6 then (if (a 33 x1.toNatClampNeg) = (a 33 x2.toNatClampNeg) then ((if (a 34 x1.toNatClampNeg) ≤ (a 34 x2.toNatClampNeg) then (some (0 : Int32)) else (some (1 : Int32)))) else (b_X9_isBetter_20  w a x1 x2 x3)) else none else none))
set_option maxHeartbeats 4000000 in
set_option maxRecDepth 100000 in
theorem lb_X9_isBetter_0 {p : Program} {l : Launch} {e : Env} {s : State} {m : MethodId} {args : Array Value} {below : List Frame} {meth : Method} {c : Code} {D : va_G} {E : Nat → ClassId} {sz : Nat} {M : Nat → Nat → Nat → Int32} {a : AS} {ρ : YR} {w : Nat} {r0 : Int32} (C : cx p s m args meth c D E (Aof (mx M a, ρ) [] s.heap.size) cX9_isBetter 4 "TradeLineModel") (hr : meth.sig.returnType = (some .boolean)) (hz : s.heap.size = sz) (hρ : rsh ρ) {x1 x2 x3 : Int32}   (h : f_X9_isBetter  w a x1 x2 x3 = some r0) : G p l e ({ frames := 0, cells := 0, slots := 0, locals := 0 } : Room) s m args below meth c D E (Aof (mx M a, ρ) [] s.heap.size) 4 (MQ below (cQ D E sz (mx M a, ρ) [] (pI (fun r u => r = r0 ∧ u = ((mx M a, ρ), [])))) args s 0 0 (Aof (mx M a, ρ) [] s.heap.size)) (mx M a, ρ) [] 0 0 0 [(0, .ref (ρ.2.2.2 40 0)), (1, .int x1), (2, .int x2), (3, .int x3)] [] := by
  unfold f_X9_isBetter at h
  refine g_iload_n C dX9_isBetter_0 rfl 2 rfl ?_
  refine g_iconst (v := (-1 : Int32)) C dX9_isBetter_1 (by decide) ?_
  refine g_icmp_eq (tgt := 20) C dX9_isBetter_2 (by decide) (fun c2 => ?_) (fun c2 => ?_)
  · replace h := (if_pos c2).symm.trans h
    refine g_lv [0, 1, 2, 3] rfl ?_
    exact lb_X9_isBetter_20 C hr hz hρ  h
  · replace h := (if_neg c2).symm.trans h
    refine g_aload_n C dX9_isBetter_5 rfl 0 rfl ?_
    refine g_get (k := 40) (i := 0) (ref := "TradeLineModel") (v := .ref (ρ.2.2.2 (40 + 33) 0)) C rfl (lvY0 hρ) rfl rfl inGX9 33 (by decide) gw_1362 (fun _ h => h) rfl dX9_isBetter_6 ?_
    refine g_iload_n C dX9_isBetter_9 rfl 1 rfl ?_
    obtain ⟨g3, h⟩ := of_guard h
    refine q_iald C hρ (j := 33) (N := 6) (List.mem_of_getElem? (i := 28) rfl) rfl rfl g3 dX9_isBetter_10 ?_
    refine g_aload_n C dX9_isBetter_11 rfl 0 rfl ?_
    refine g_get (k := 40) (i := 0) (ref := "TradeLineModel") (v := .ref (ρ.2.2.2 (40 + 33) 0)) C rfl (lvY0 hρ) rfl rfl inGX9 33 (by decide) gw_1362 (fun _ h => h) rfl dX9_isBetter_12 ?_
    refine g_iload_n C dX9_isBetter_15 rfl 2 rfl ?_
    obtain ⟨g4, h⟩ := of_guard h
    refine q_iald C hρ (j := 33) (N := 6) (List.mem_of_getElem? (i := 28) rfl) rfl rfl g4 dX9_isBetter_16 ?_
    refine g_icmp_eq (tgt := 55) C dX9_isBetter_17 (by decide) (fun c17 => ?_) (fun c17 => ?_)
    · replace h := (if_pos c17).symm.trans h
      refine g_aload_n C dX9_isBetter_55 rfl 0 rfl ?_
      refine g_get (k := 40) (i := 0) (ref := "TradeLineModel") (v := .ref (ρ.2.2.2 (40 + 34) 0)) C rfl (lvY0 hρ) rfl rfl inGX9 34 (by decide) gw_1363 (fun _ h => h) rfl dX9_isBetter_56 ?_
      refine g_iload_n C dX9_isBetter_59 rfl 1 rfl ?_
      refine q_iald C hρ (j := 34) (N := 6) (List.mem_of_getElem? (i := 29) rfl) rfl rfl g3 dX9_isBetter_60 ?_
      refine g_aload_n C dX9_isBetter_61 rfl 0 rfl ?_
      refine g_get (k := 40) (i := 0) (ref := "TradeLineModel") (v := .ref (ρ.2.2.2 (40 + 34) 0)) C rfl (lvY0 hρ) rfl rfl inGX9 34 (by decide) gw_1363 (fun _ h => h) rfl dX9_isBetter_62 ?_
      refine g_iload_n C dX9_isBetter_65 rfl 2 rfl ?_
      refine q_iald C hρ (j := 34) (N := 6) (List.mem_of_getElem? (i := 29) rfl) rfl rfl g4 dX9_isBetter_66 ?_
      refine g_icmp_le (tgt := 74) C dX9_isBetter_67 (by decide) (fun c67 => ?_) (fun c67 => ?_)
      · replace h := (if_pos c67).symm.trans h
        refine g_iconst (v := (0 : Int32)) C dX9_isBetter_74 (by decide) ?_
        exact g_iret C hr rfl hz ⟨rfl, rfl, fun _ => rfl, fun _ => rfl⟩ ⟨Option.some.inj h, rfl⟩ (fun j x h => by simp at h) dX9_isBetter_75
      · replace h := (if_neg c67).symm.trans h
        refine g_iconst (v := (1 : Int32)) C dX9_isBetter_70 (by decide) ?_
        refine g_goto (tgt := 75) C dX9_isBetter_71 (by decide) ?_
        exact g_iret C hr rfl hz ⟨rfl, rfl, fun _ => rfl, fun _ => rfl⟩ ⟨Option.some.inj h, rfl⟩ (fun j x h => by simp at h) dX9_isBetter_75
    · replace h := (if_neg c17).symm.trans h
      refine g_lv [0, 1, 2, 3] rfl ?_
      exact lb_X9_isBetter_20 C hr hz hρ  h
theorem k_X9_isBetter (l : Launch) (M : Nat → Nat → Nat → Int32) (ρ : YR) (hρ : rsh ρ) (w : Nat) (a : AS) (x1 x2 x3 : Int32) (r0 : Int32) (h : f_X9_isBetter w a x1 x2 x3 = some r0) : ∀ D E sz, Met l yX9_isBetter gwX9_isBetter ({ frames := 0, cells := 0, slots := 0, locals := 0 } : Room) (cP D E sz (mx M a, ρ) [] [.ref (ρ.2.2.2 40 0), .int x1, .int x2, .int x3]) (cQ D E sz (mx M a, ρ) [] (pI (fun r u => r = r0 ∧ u = ((mx M a, ρ), [])))) (0) (0) (Aof (mx M a, ρ) [] sz) := by
  intro D E sz
  refine g_of (cc := cX9_isBetter) (maxL := 4) (ret := (some .boolean)) (own := "TradeLineModel") (by decide) rfl rfl (Nat.le_of_ble_eq_true rfl) ?_
  intro p e s m args below meth c C hr hin hz ha hwr
  refine g_lv [0, 1, 2, 3] rfl ?_
  exact lb_X9_isBetter_0 C hr hz hρ h
noncomputable def b_X9_quoteFor_130 (k10 : Int32 → Int32 → Int32 → Int32 → Option (Int32)) (w : Nat) (a : AS) (x1 x2 x4 s0 : Int32) : Option (Int32) := yl (x4 + (1 : Int32)) (fun t8 => k10 x1 x2 s0 t8)
set_option maxHeartbeats 4000000 in
set_option maxRecDepth 100000 in
theorem lb_X9_quoteFor_130 {p : Program} {l : Launch} {e : Env} {s : State} {m : MethodId} {args : Array Value} {below : List Frame} {meth : Method} {c : Code} {D : va_G} {E : Nat → ClassId} {sz : Nat} {M : Nat → Nat → Nat → Int32} {a : AS} {ρ : YR} {w : Nat} {r0 : Int32} (C : cx p s m args meth c D E (Aof (mx M a, ρ) [] s.heap.size) cX9_quoteFor 7 "TradeLineModel") (hr : meth.sig.returnType = (some .int)) (hz : s.heap.size = sz) (hρ : rsh ρ) {x1 x2 x4 s0 : Int32} {k10 : Int32 → Int32 → Int32 → Int32 → Option (Int32)} (hk10 : ∀ (z1 z2 z3 z4 : Int32), k10 z1 z2 z3 z4 = some r0 → G p l e ({ frames := 1, cells := 0, slots := 0, locals := 23 } : Room) s m args below meth c D E (Aof (mx M a, ρ) [] s.heap.size) 7 (MQ below (cQ D E sz (mx M a, ρ) [] (pI (fun r u => r = r0 ∧ u = ((mx M a, ρ), [])))) args s 0 0 (Aof (mx M a, ρ) [] s.heap.size)) (mx M a, ρ) [] 0 0 10 [(0, .ref (ρ.2.2.2 40 0)), (1, .int z1), (2, .int z2), (3, .int z3), (4, .int z4)] []) (h : b_X9_quoteFor_130 k10 w a x1 x2 x4 s0 = some r0) : G p l e ({ frames := 1, cells := 0, slots := 0, locals := 23 } : Room) s m args below meth c D E (Aof (mx M a, ρ) [] s.heap.size) 7 (MQ below (cQ D E sz (mx M a, ρ) [] (pI (fun r u => r = r0 ∧ u = ((mx M a, ρ), [])))) args s 0 0 (Aof (mx M a, ρ) [] s.heap.size)) (mx M a, ρ) [] 0 0 130 [(0, .ref (ρ.2.2.2 40 0)), (1, .int x1), (2, .int x2), (4, .int x4)] [.int s0] := by
  unfold b_X9_quoteFor_130 at h
  refine g_istore_n (lv' := [(3, .int s0), (0, .ref (ρ.2.2.2 40 0)), (1, .int x1), (2, .int x2), (4, .int x4)]) C dX9_quoteFor_130 rfl (by decide) rfl ?_
  obtain ⟨t8, et8⟩ : ∃ y : Int32, x4 + (1 : Int32) = y := ⟨_, rfl⟩
  replace h := yl_of h et8
  refine g_iinc (v := t8) (lv' := [(4, .int t8), (3, .int s0), (0, .ref (ρ.2.2.2 40 0)), (1, .int x1), (2, .int x2)]) C dX9_quoteFor_131 4 rfl (by rw [← et8]; rfl) (by decide) rfl ?_
  refine g_goto (tgt := 10) C dX9_quoteFor_134 (by decide) ?_
  refine g_lv [2, 3, 4, 1, 0] rfl ?_
  exact hk10 _ _ _ _ h
noncomputable def b_X9_quoteFor_129 (k10 : Int32 → Int32 → Int32 → Int32 → Option (Int32)) (w : Nat) (a : AS) (x1 x2 x3 x4 : Int32) : Option (Int32) := b_X9_quoteFor_130 k10 w a x1 x2 x4 x3
set_option maxHeartbeats 4000000 in
set_option maxRecDepth 100000 in
theorem lb_X9_quoteFor_129 {p : Program} {l : Launch} {e : Env} {s : State} {m : MethodId} {args : Array Value} {below : List Frame} {meth : Method} {c : Code} {D : va_G} {E : Nat → ClassId} {sz : Nat} {M : Nat → Nat → Nat → Int32} {a : AS} {ρ : YR} {w : Nat} {r0 : Int32} (C : cx p s m args meth c D E (Aof (mx M a, ρ) [] s.heap.size) cX9_quoteFor 7 "TradeLineModel") (hr : meth.sig.returnType = (some .int)) (hz : s.heap.size = sz) (hρ : rsh ρ) {x1 x2 x3 x4 : Int32} {k10 : Int32 → Int32 → Int32 → Int32 → Option (Int32)} (hk10 : ∀ (z1 z2 z3 z4 : Int32), k10 z1 z2 z3 z4 = some r0 → G p l e ({ frames := 1, cells := 0, slots := 0, locals := 23 } : Room) s m args below meth c D E (Aof (mx M a, ρ) [] s.heap.size) 7 (MQ below (cQ D E sz (mx M a, ρ) [] (pI (fun r u => r = r0 ∧ u = ((mx M a, ρ), [])))) args s 0 0 (Aof (mx M a, ρ) [] s.heap.size)) (mx M a, ρ) [] 0 0 10 [(0, .ref (ρ.2.2.2 40 0)), (1, .int z1), (2, .int z2), (3, .int z3), (4, .int z4)] []) (h : b_X9_quoteFor_129 k10 w a x1 x2 x3 x4 = some r0) : G p l e ({ frames := 1, cells := 0, slots := 0, locals := 23 } : Room) s m args below meth c D E (Aof (mx M a, ρ) [] s.heap.size) 7 (MQ below (cQ D E sz (mx M a, ρ) [] (pI (fun r u => r = r0 ∧ u = ((mx M a, ρ), [])))) args s 0 0 (Aof (mx M a, ρ) [] s.heap.size)) (mx M a, ρ) [] 0 0 129 [(0, .ref (ρ.2.2.2 40 0)), (1, .int x1), (2, .int x2), (3, .int x3), (4, .int x4)] [] := by
  unfold b_X9_quoteFor_129 at h
  refine g_iload_n C dX9_quoteFor_129 rfl 3 rfl ?_
  refine g_lv [0, 1, 2, 4] rfl ?_
  exact lb_X9_quoteFor_130 C hr hz hρ hk10 h
noncomputable def b_X9_quoteFor_91 (k10 : Int32 → Int32 → Int32 → Int32 → Option (Int32)) (w : Nat) (a : AS) (x1 x2 x3 x4 x5 s0 : Int32) : Option (Int32) := bif ixB x5 6 then (if (a 34 x5.toNatClampNeg) ≤ (0 : Int32) then (b_X9_quoteFor_129 k10 w a x1 x2 x3 x4) else ((if s0 = (0 : Int32) then (b_X9_quoteFor_129 k10 w a x1 x2 x3 x4) else (bif ixB x1 40 then (f_X9_isBetter w a x5 x3 (a 23 x1.toNatClampNeg)).bind (fun v10 => (if v10 = (0 : Int32) then (b_X9_quoteFor_129 k10 w a x1 x2 x3 x4) else (b_X9_quoteFor_130 k10 w a x1 x2 x4 x5))) else none)))) else none
set_option maxHeartbeats 4000000 in
set_option maxRecDepth 100000 in
theorem lb_X9_quoteFor_91 {p : Program} {l : Launch} {e : Env} {s : State} {m : MethodId} {args : Array Value} {below : List Frame} {meth : Method} {c : Code} {D : va_G} {E : Nat → ClassId} {sz : Nat} {M : Nat → Nat → Nat → Int32} {a : AS} {ρ : YR} {w : Nat} {r0 : Int32} (C : cx p s m args meth c D E (Aof (mx M a, ρ) [] s.heap.size) cX9_quoteFor 7 "TradeLineModel") (hr : meth.sig.returnType = (some .int)) (hz : s.heap.size = sz) (hρ : rsh ρ) {x1 x2 x3 x4 x5 s0 : Int32} {k10 : Int32 → Int32 → Int32 → Int32 → Option (Int32)} (hk10 : ∀ (z1 z2 z3 z4 : Int32), k10 z1 z2 z3 z4 = some r0 → G p l e ({ frames := 1, cells := 0, slots := 0, locals := 23 } : Room) s m args below meth c D E (Aof (mx M a, ρ) [] s.heap.size) 7 (MQ below (cQ D E sz (mx M a, ρ) [] (pI (fun r u => r = r0 ∧ u = ((mx M a, ρ), [])))) args s 0 0 (Aof (mx M a, ρ) [] s.heap.size)) (mx M a, ρ) [] 0 0 10 [(0, .ref (ρ.2.2.2 40 0)), (1, .int z1), (2, .int z2), (3, .int z3), (4, .int z4)] []) (h : b_X9_quoteFor_91 k10 w a x1 x2 x3 x4 x5 s0 = some r0) : G p l e ({ frames := 1, cells := 0, slots := 0, locals := 23 } : Room) s m args below meth c D E (Aof (mx M a, ρ) [] s.heap.size) 7 (MQ below (cQ D E sz (mx M a, ρ) [] (pI (fun r u => r = r0 ∧ u = ((mx M a, ρ), [])))) args s 0 0 (Aof (mx M a, ρ) [] s.heap.size)) (mx M a, ρ) [] 0 0 91 [(0, .ref (ρ.2.2.2 40 0)), (1, .int x1), (2, .int x2), (3, .int x3), (4, .int x4), (5, .int x5)] [.int s0] := by
  unfold b_X9_quoteFor_91 at h
  refine g_istore (lv' := [(6, .int s0), (0, .ref (ρ.2.2.2 40 0)), (1, .int x1), (2, .int x2), (3, .int x3), (4, .int x4), (5, .int x5)]) C dX9_quoteFor_91 (by decide) rfl ?_
  refine g_aload_n C dX9_quoteFor_93 rfl 1 rfl ?_
  refine g_get (k := 40) (i := 0) (ref := "TradeLineModel") (v := .ref (ρ.2.2.2 (40 + 34) 0)) C rfl (lvY0 hρ) rfl rfl inGX9 34 (by decide) gw_1363 (fun _ h => h) rfl dX9_quoteFor_94 ?_
  refine g_iload C dX9_quoteFor_97 6 rfl ?_
  obtain ⟨g7, h⟩ := of_guard h
  refine q_iald C hρ (j := 34) (N := 6) (List.mem_of_getElem? (i := 29) rfl) rfl rfl g7 dX9_quoteFor_99 ?_
  refine g_if_le (tgt := 129) C dX9_quoteFor_100 (by decide) (fun c100 => ?_) (fun c100 => ?_)
  · replace h := (if_pos c100).symm.trans h
    refine g_lv [1, 2, 3, 4, 5] rfl ?_
    exact lb_X9_quoteFor_129 C hr hz hρ hk10 h
  · replace h := (if_neg c100).symm.trans h
    refine g_iload C dX9_quoteFor_103 0 rfl ?_
    refine g_if_eq (tgt := 129) C dX9_quoteFor_105 (by decide) (fun c105 => ?_) (fun c105 => ?_)
    · replace h := (if_pos c105).symm.trans h
      refine g_lv [1, 2, 3, 4, 5] rfl ?_
      exact lb_X9_quoteFor_129 C hr hz hρ hk10 h
    · replace h := (if_neg c105).symm.trans h
      refine g_aload_n C dX9_quoteFor_108 rfl 1 rfl ?_
      refine g_iload C dX9_quoteFor_109 6 rfl ?_
      refine g_iload_n C dX9_quoteFor_111 rfl 4 rfl ?_
      refine g_aload_n C dX9_quoteFor_112 rfl 1 rfl ?_
      refine g_get (k := 40) (i := 0) (ref := "TradeLineModel") (v := .ref (ρ.2.2.2 (40 + 23) 0)) C rfl (lvY0 hρ) rfl rfl inGX9 23 (by decide) gw_1352 (fun _ h => h) rfl dX9_quoteFor_113 ?_
      refine g_iload_n C dX9_quoteFor_116 rfl 2 rfl ?_
      obtain ⟨g9, h⟩ := of_guard h
      refine q_zald C hρ (j := 23) (N := 40) (List.mem_of_getElem? (i := 19) rfl) rfl rfl g9 dX9_quoteFor_117 ?_
      obtain ⟨v10, hv10, h⟩ := bind_of h
      refine g_cVi (n := 3) (exc := []) (exr := []) C [_, _, _] _ rfl rfl [] [] rfl rfl rfl rfl (fun _ h => absurd h (by simp)) (fun _ h => absurd h (by simp)) (fun _ h => absurd h (by simp)) (fun sz => k_X9_isBetter l M ρ hρ w _ _ _ _ _ hv10 D E sz) rfl gw_1559 gw_9 gw_1556 gw_1558 gs_58 ⟨by decide +kernel, by decide +kernel, by decide +kernel⟩ ⟨rfl, rfl⟩ ⟨Nat.le_of_ble_eq_true rfl, Nat.le_of_ble_eq_true rfl⟩ (rcvT (lvY0 hρ) rfl rfl rfl) (Nat.le_of_ble_eq_true rfl) dX9_quoteFor_118 ⟨by decide, by decide⟩ (fun r u hp hx => ?_)
      obtain ⟨er, rfl⟩ := hp
      rw [er]
      try dsimp only [List.append_nil]
      refine g_if_eq (tgt := 129) C dX9_quoteFor_121 (by decide) (fun c121 => ?_) (fun c121 => ?_)
      · replace h := (if_pos c121).symm.trans h
        refine g_lv [1, 2, 3, 4, 5] rfl ?_
        exact lb_X9_quoteFor_129 C hr hz hρ hk10 h
      · replace h := (if_neg c121).symm.trans h
        refine g_iload C dX9_quoteFor_124 6 rfl ?_
        refine g_goto (tgt := 130) C dX9_quoteFor_126 (by decide) ?_
        refine g_lv [1, 2, 3, 5] rfl ?_
        exact lb_X9_quoteFor_130 C hr hz hρ hk10 h
noncomputable def b_X9_quoteFor_34 (k10 : Int32 → Int32 → Int32 → Int32 → Option (Int32)) (w : Nat) (a : AS) (x1 x2 x3 x4 s0 s1 : Int32) : Option (Int32) := yl ((s1 + s0)) (fun t3 => bif ixB x1 40 then (if (a 23 x1.toNatClampNeg) = (0 : Int32) then (bif ixB t3 6 then bif ixB x2 80 then (if (a 25 x2.toNatClampNeg) < (a 33 t3.toNatClampNeg) then (b_X9_quoteFor_91 k10 w a x1 x2 x3 x4 t3 (0 : Int32)) else (b_X9_quoteFor_91 k10 w a x1 x2 x3 x4 t3 (1 : Int32))) else none else none) else (bif ixB t3 6 then bif ixB x2 80 then (if (a 33 t3.toNatClampNeg) < (a 25 x2.toNatClampNeg) then (b_X9_quoteFor_91 k10 w a x1 x2 x3 x4 t3 (0 : Int32)) else (b_X9_quoteFor_91 k10 w a x1 x2 x3 x4 t3 (1 : Int32))) else none else none)) else none)
set_option maxHeartbeats 4000000 in
set_option maxRecDepth 100000 in
theorem lb_X9_quoteFor_34 {p : Program} {l : Launch} {e : Env} {s : State} {m : MethodId} {args : Array Value} {below : List Frame} {meth : Method} {c : Code} {D : va_G} {E : Nat → ClassId} {sz : Nat} {M : Nat → Nat → Nat → Int32} {a : AS} {ρ : YR} {w : Nat} {r0 : Int32} (C : cx p s m args meth c D E (Aof (mx M a, ρ) [] s.heap.size) cX9_quoteFor 7 "TradeLineModel") (hr : meth.sig.returnType = (some .int)) (hz : s.heap.size = sz) (hρ : rsh ρ) {x1 x2 x3 x4 s0 s1 : Int32} {k10 : Int32 → Int32 → Int32 → Int32 → Option (Int32)} (hk10 : ∀ (z1 z2 z3 z4 : Int32), k10 z1 z2 z3 z4 = some r0 → G p l e ({ frames := 1, cells := 0, slots := 0, locals := 23 } : Room) s m args below meth c D E (Aof (mx M a, ρ) [] s.heap.size) 7 (MQ below (cQ D E sz (mx M a, ρ) [] (pI (fun r u => r = r0 ∧ u = ((mx M a, ρ), [])))) args s 0 0 (Aof (mx M a, ρ) [] s.heap.size)) (mx M a, ρ) [] 0 0 10 [(0, .ref (ρ.2.2.2 40 0)), (1, .int z1), (2, .int z2), (3, .int z3), (4, .int z4)] []) (h : b_X9_quoteFor_34 k10 w a x1 x2 x3 x4 s0 s1 = some r0) : G p l e ({ frames := 1, cells := 0, slots := 0, locals := 23 } : Room) s m args below meth c D E (Aof (mx M a, ρ) [] s.heap.size) 7 (MQ below (cQ D E sz (mx M a, ρ) [] (pI (fun r u => r = r0 ∧ u = ((mx M a, ρ), [])))) args s 0 0 (Aof (mx M a, ρ) [] s.heap.size)) (mx M a, ρ) [] 0 0 34 [(0, .ref (ρ.2.2.2 40 0)), (1, .int x1), (2, .int x2), (3, .int x3), (4, .int x4)] [.int s0, .int s1] := by
  unfold b_X9_quoteFor_34 at h
  refine g_iadd C dX9_quoteFor_34 ?_
  refine q_topi (fun t3 et3 => ?_)
  replace h := yl_of h et3
  refine g_istore (lv' := [(5, .int t3), (0, .ref (ρ.2.2.2 40 0)), (1, .int x1), (2, .int x2), (3, .int x3), (4, .int x4)]) C dX9_quoteFor_35 (by decide) rfl ?_
  refine g_aload_n C dX9_quoteFor_37 rfl 1 rfl ?_
  refine g_get (k := 40) (i := 0) (ref := "TradeLineModel") (v := .ref (ρ.2.2.2 (40 + 23) 0)) C rfl (lvY0 hρ) rfl rfl inGX9 23 (by decide) gw_1352 (fun _ h => h) rfl dX9_quoteFor_38 ?_
  refine g_iload_n C dX9_quoteFor_41 rfl 2 rfl ?_
  obtain ⟨g4, h⟩ := of_guard h
  refine q_zald C hρ (j := 23) (N := 40) (List.mem_of_getElem? (i := 19) rfl) rfl rfl g4 dX9_quoteFor_42 ?_
  refine g_if_eq (tgt := 70) C dX9_quoteFor_43 (by decide) (fun c43 => ?_) (fun c43 => ?_)
  · replace h := (if_pos c43).symm.trans h
    refine g_aload_n C dX9_quoteFor_70 rfl 1 rfl ?_
    refine g_get (k := 40) (i := 0) (ref := "TradeLineModel") (v := .ref (ρ.2.2.2 (40 + 33) 0)) C rfl (lvY0 hρ) rfl rfl inGX9 33 (by decide) gw_1362 (fun _ h => h) rfl dX9_quoteFor_71 ?_
    refine g_iload C dX9_quoteFor_74 0 rfl ?_
    obtain ⟨g5, h⟩ := of_guard h
    refine q_iald C hρ (j := 33) (N := 6) (List.mem_of_getElem? (i := 28) rfl) rfl rfl g5 dX9_quoteFor_76 ?_
    refine g_aload_n C dX9_quoteFor_77 rfl 1 rfl ?_
    refine g_get (k := 40) (i := 0) (ref := "TradeLineModel") (v := .ref (ρ.2.2.2 (40 + 25) 0)) C rfl (lvY0 hρ) rfl rfl inGX9 25 (by decide) gw_1354 (fun _ h => h) rfl dX9_quoteFor_78 ?_
    refine g_iload_n C dX9_quoteFor_81 rfl 3 rfl ?_
    obtain ⟨g6, h⟩ := of_guard h
    refine q_iald C hρ (j := 25) (N := 80) (List.mem_of_getElem? (i := 21) rfl) rfl rfl g6 dX9_quoteFor_82 ?_
    refine g_icmp_gt (tgt := 90) C dX9_quoteFor_83 (by decide) (fun c83 => ?_) (fun c83 => ?_)
    · replace h := (if_pos c83).symm.trans h
      refine g_iconst (v := (0 : Int32)) C dX9_quoteFor_90 (by decide) ?_
      refine g_lv [1, 2, 3, 4, 5, 0] rfl ?_
      exact lb_X9_quoteFor_91 C hr hz hρ hk10 h
    · replace h := (if_neg c83).symm.trans h
      refine g_iconst (v := (1 : Int32)) C dX9_quoteFor_86 (by decide) ?_
      refine g_goto (tgt := 91) C dX9_quoteFor_87 (by decide) ?_
      refine g_lv [1, 2, 3, 4, 5, 0] rfl ?_
      exact lb_X9_quoteFor_91 C hr hz hρ hk10 h
  · replace h := (if_neg c43).symm.trans h
    refine g_aload_n C dX9_quoteFor_46 rfl 1 rfl ?_
    refine g_get (k := 40) (i := 0) (ref := "TradeLineModel") (v := .ref (ρ.2.2.2 (40 + 33) 0)) C rfl (lvY0 hρ) rfl rfl inGX9 33 (by decide) gw_1362 (fun _ h => h) rfl dX9_quoteFor_47 ?_
    refine g_iload C dX9_quoteFor_50 0 rfl ?_
    obtain ⟨g11, h⟩ := of_guard h
    refine q_iald C hρ (j := 33) (N := 6) (List.mem_of_getElem? (i := 28) rfl) rfl rfl g11 dX9_quoteFor_52 ?_
    refine g_aload_n C dX9_quoteFor_53 rfl 1 rfl ?_
    refine g_get (k := 40) (i := 0) (ref := "TradeLineModel") (v := .ref (ρ.2.2.2 (40 + 25) 0)) C rfl (lvY0 hρ) rfl rfl inGX9 25 (by decide) gw_1354 (fun _ h => h) rfl dX9_quoteFor_54 ?_
    refine g_iload_n C dX9_quoteFor_57 rfl 3 rfl ?_
    obtain ⟨g12, h⟩ := of_guard h
    refine q_iald C hρ (j := 25) (N := 80) (List.mem_of_getElem? (i := 21) rfl) rfl rfl g12 dX9_quoteFor_58 ?_
    refine g_icmp_lt (tgt := 66) C dX9_quoteFor_59 (by decide) (fun c59 => ?_) (fun c59 => ?_)
    · replace h := (if_pos c59).symm.trans h
      refine g_iconst (v := (0 : Int32)) C dX9_quoteFor_66 (by decide) ?_
      refine g_goto (tgt := 91) C dX9_quoteFor_67 (by decide) ?_
      refine g_lv [1, 2, 3, 4, 5, 0] rfl ?_
      exact lb_X9_quoteFor_91 C hr hz hρ hk10 h
    · replace h := (if_neg c59).symm.trans h
      refine g_iconst (v := (1 : Int32)) C dX9_quoteFor_62 (by decide) ?_
      refine g_goto (tgt := 91) C dX9_quoteFor_63 (by decide) ?_
      refine g_lv [1, 2, 3, 4, 5, 0] rfl ?_
      exact lb_X9_quoteFor_91 C hr hz hρ hk10 h
noncomputable def b_X9_quoteFor_10 (k10 : Int32 → Int32 → Int32 → Int32 → Option (Int32)) (w : Nat) (a : AS) (x1 x2 x3 x4 : Int32) : Option (Int32) := (if (3 : Int32) ≤ x4 then (some x3) else (bif ixB x1 40 then (if (a 23 x1.toNatClampNeg) = (0 : Int32) then (b_X9_quoteFor_34 k10 w a x1 x2 x3 x4 (0 : Int32) ((2 : Int32) * x4)) else (b_X9_quoteFor_34 k10 w a x1 x2 x3 x4 (1 : Int32) ((2 : Int32) * x4))) else none))
set_option maxHeartbeats 4000000 in
set_option maxRecDepth 100000 in
theorem lb_X9_quoteFor_10 {p : Program} {l : Launch} {e : Env} {s : State} {m : MethodId} {args : Array Value} {below : List Frame} {meth : Method} {c : Code} {D : va_G} {E : Nat → ClassId} {sz : Nat} {M : Nat → Nat → Nat → Int32} {a : AS} {ρ : YR} {w : Nat} {r0 : Int32} (C : cx p s m args meth c D E (Aof (mx M a, ρ) [] s.heap.size) cX9_quoteFor 7 "TradeLineModel") (hr : meth.sig.returnType = (some .int)) (hz : s.heap.size = sz) (hρ : rsh ρ) {x1 x2 x3 x4 : Int32} {k10 : Int32 → Int32 → Int32 → Int32 → Option (Int32)} (hk10 : ∀ (z1 z2 z3 z4 : Int32), k10 z1 z2 z3 z4 = some r0 → G p l e ({ frames := 1, cells := 0, slots := 0, locals := 23 } : Room) s m args below meth c D E (Aof (mx M a, ρ) [] s.heap.size) 7 (MQ below (cQ D E sz (mx M a, ρ) [] (pI (fun r u => r = r0 ∧ u = ((mx M a, ρ), [])))) args s 0 0 (Aof (mx M a, ρ) [] s.heap.size)) (mx M a, ρ) [] 0 0 10 [(0, .ref (ρ.2.2.2 40 0)), (1, .int z1), (2, .int z2), (3, .int z3), (4, .int z4)] []) (h : b_X9_quoteFor_10 k10 w a x1 x2 x3 x4 = some r0) : G p l e ({ frames := 1, cells := 0, slots := 0, locals := 23 } : Room) s m args below meth c D E (Aof (mx M a, ρ) [] s.heap.size) 7 (MQ below (cQ D E sz (mx M a, ρ) [] (pI (fun r u => r = r0 ∧ u = ((mx M a, ρ), [])))) args s 0 0 (Aof (mx M a, ρ) [] s.heap.size)) (mx M a, ρ) [] 0 0 10 [(0, .ref (ρ.2.2.2 40 0)), (1, .int x1), (2, .int x2), (3, .int x3), (4, .int x4)] [] := by
  unfold b_X9_quoteFor_10 at h
  refine g_iload C dX9_quoteFor_10 4 rfl ?_
  refine g_iconst (v := (3 : Int32)) C dX9_quoteFor_12 (by decide) ?_
  refine g_icmp_ge (tgt := 137) C dX9_quoteFor_13 (by decide) (fun c13 => ?_) (fun c13 => ?_)
  · replace h := (if_pos c13).symm.trans h
    refine g_iload_n C dX9_quoteFor_137 rfl 3 rfl ?_
    exact g_iret C hr rfl hz ⟨rfl, rfl, fun _ => rfl, fun _ => rfl⟩ ⟨Option.some.inj h, rfl⟩ (fun j x h => by simp at h) dX9_quoteFor_138
  · replace h := (if_neg c13).symm.trans h
    refine g_iconst (v := (2 : Int32)) C dX9_quoteFor_16 (by decide) ?_
    refine g_iload C dX9_quoteFor_17 4 rfl ?_
    refine g_imul C dX9_quoteFor_19 ?_
    refine g_aload_n C dX9_quoteFor_20 rfl 0 rfl ?_
    refine g_get (k := 40) (i := 0) (ref := "TradeLineModel") (v := .ref (ρ.2.2.2 (40 + 23) 0)) C rfl (lvY0 hρ) rfl rfl inGX9 23 (by decide) gw_1352 (fun _ h => h) rfl dX9_quoteFor_21 ?_
    refine g_iload_n C dX9_quoteFor_24 rfl 1 rfl ?_
    obtain ⟨g2, h⟩ := of_guard h
    refine q_zald C hρ (j := 23) (N := 40) (List.mem_of_getElem? (i := 19) rfl) rfl rfl g2 dX9_quoteFor_25 ?_
    refine g_if_eq (tgt := 33) C dX9_quoteFor_26 (by decide) (fun c26 => ?_) (fun c26 => ?_)
    · replace h := (if_pos c26).symm.trans h
      refine g_iconst (v := (0 : Int32)) C dX9_quoteFor_33 (by decide) ?_
      refine g_lv [0, 1, 2, 3, 4] rfl ?_
      exact lb_X9_quoteFor_34 C hr hz hρ hk10 h
    · replace h := (if_neg c26).symm.trans h
      refine g_iconst (v := (1 : Int32)) C dX9_quoteFor_29 (by decide) ?_
      refine g_goto (tgt := 34) C dX9_quoteFor_30 (by decide) ?_
      refine g_lv [0, 1, 2, 3, 4] rfl ?_
      exact lb_X9_quoteFor_34 C hr hz hρ hk10 h
noncomputable def l_X9_quoteFor_10  (w : Nat) (a : AS) : Nat → Int32 → Int32 → Int32 → Int32 → Option (Int32)
  | 0 => fun _ _ _ _ => none
  | n + 1 => fun x1 x2 x3 x4 => b_X9_quoteFor_10  (l_X9_quoteFor_10  w a n) w a x1 x2 x3 x4
theorem ll_X9_quoteFor_10 {p : Program} {l : Launch} {e : Env} {s : State} {m : MethodId} {args : Array Value} {below : List Frame} {meth : Method} {c : Code} {D : va_G} {E : Nat → ClassId} {sz : Nat} {M : Nat → Nat → Nat → Int32} {a : AS} {ρ : YR} {w : Nat} {r0 : Int32} (C : cx p s m args meth c D E (Aof (mx M a, ρ) [] s.heap.size) cX9_quoteFor 7 "TradeLineModel") (hr : meth.sig.returnType = (some .int)) (hz : s.heap.size = sz) (hρ : rsh ρ)   : ∀ (n : Nat) (x1 x2 x3 x4 : Int32), l_X9_quoteFor_10  w a n x1 x2 x3 x4 = some r0 → G p l e ({ frames := 1, cells := 0, slots := 0, locals := 23 } : Room) s m args below meth c D E (Aof (mx M a, ρ) [] s.heap.size) 7 (MQ below (cQ D E sz (mx M a, ρ) [] (pI (fun r u => r = r0 ∧ u = ((mx M a, ρ), [])))) args s 0 0 (Aof (mx M a, ρ) [] s.heap.size)) (mx M a, ρ) [] 0 0 10 [(0, .ref (ρ.2.2.2 40 0)), (1, .int x1), (2, .int x2), (3, .int x3), (4, .int x4)] [] := by
  intro n
  induction n with
  | zero => exact fun x1 x2 x3 x4 h => absurd (show (none : Option (Int32)) = some r0 from h) (by simp)
  | succ n ih => exact fun x1 x2 x3 x4 h => lb_X9_quoteFor_10 (w := w) C hr hz hρ  ih h
noncomputable def f_X9_quoteFor  (w : Nat) (a : AS) (x1 : Int32) : Option (Int32) := yl (((40 : Int32) + x1)) (fun t1 => l_X9_quoteFor_10  w a w x1 t1 (-1 : Int32) (0 : Int32))
set_option maxHeartbeats 4000000 in
set_option maxRecDepth 100000 in
theorem lb_X9_quoteFor_0 {p : Program} {l : Launch} {e : Env} {s : State} {m : MethodId} {args : Array Value} {below : List Frame} {meth : Method} {c : Code} {D : va_G} {E : Nat → ClassId} {sz : Nat} {M : Nat → Nat → Nat → Int32} {a : AS} {ρ : YR} {w : Nat} {r0 : Int32} (C : cx p s m args meth c D E (Aof (mx M a, ρ) [] s.heap.size) cX9_quoteFor 7 "TradeLineModel") (hr : meth.sig.returnType = (some .int)) (hz : s.heap.size = sz) (hρ : rsh ρ) {x1 : Int32}   (h : f_X9_quoteFor  w a x1 = some r0) : G p l e ({ frames := 1, cells := 0, slots := 0, locals := 23 } : Room) s m args below meth c D E (Aof (mx M a, ρ) [] s.heap.size) 7 (MQ below (cQ D E sz (mx M a, ρ) [] (pI (fun r u => r = r0 ∧ u = ((mx M a, ρ), [])))) args s 0 0 (Aof (mx M a, ρ) [] s.heap.size)) (mx M a, ρ) [] 0 0 0 [(0, .ref (ρ.2.2.2 40 0)), (1, .int x1)] [] := by
  unfold f_X9_quoteFor at h
  refine g_bipush (v := (40 : Int32)) C dX9_quoteFor_0 (by decide) ?_
  refine g_iload_n C dX9_quoteFor_2 rfl 1 rfl ?_
  refine g_iadd C dX9_quoteFor_3 ?_
  refine q_topi (fun t1 et1 => ?_)
  replace h := yl_of h et1
  refine g_istore_n (lv' := [(2, .int t1), (0, .ref (ρ.2.2.2 40 0)), (1, .int x1)]) C dX9_quoteFor_4 rfl (by decide) rfl ?_
  refine g_iconst (v := (-1 : Int32)) C dX9_quoteFor_5 (by decide) ?_
  refine g_istore_n (lv' := [(3, .int (-1 : Int32)), (2, .int t1), (0, .ref (ρ.2.2.2 40 0)), (1, .int x1)]) C dX9_quoteFor_6 rfl (by decide) rfl ?_
  refine g_iconst (v := (0 : Int32)) C dX9_quoteFor_7 (by decide) ?_
  refine g_istore (lv' := [(4, .int (0 : Int32)), (3, .int (-1 : Int32)), (2, .int t1), (0, .ref (ρ.2.2.2 40 0)), (1, .int x1)]) C dX9_quoteFor_8 (by decide) rfl ?_
  refine g_lv [3, 4, 2, 1, 0] rfl ?_
  exact ll_X9_quoteFor_10 C hr hz hρ  w _ _ _ _ h
theorem k_X9_quoteFor (l : Launch) (M : Nat → Nat → Nat → Int32) (ρ : YR) (hρ : rsh ρ) (w : Nat) (a : AS) (x1 : Int32) (r0 : Int32) (h : f_X9_quoteFor w a x1 = some r0) : ∀ D E sz, Met l yX9_quoteFor gwX9_quoteFor ({ frames := 1, cells := 0, slots := 0, locals := 23 } : Room) (cP D E sz (mx M a, ρ) [] [.ref (ρ.2.2.2 40 0), .int x1]) (cQ D E sz (mx M a, ρ) [] (pI (fun r u => r = r0 ∧ u = ((mx M a, ρ), [])))) (0) (0) (Aof (mx M a, ρ) [] sz) := by
  intro D E sz
  refine g_of (cc := cX9_quoteFor) (maxL := 7) (ret := (some .int)) (own := "TradeLineModel") (by decide) rfl rfl (Nat.le_of_ble_eq_true rfl) ?_
  intro p e s m args below meth c C hr hin hz ha hwr
  refine g_lv [0, 1] rfl ?_
  exact lb_X9_quoteFor_0 C hr hz hρ h
noncomputable def f_X9_leftIn  (w : Nat) (a : AS) (x1 : Int32) : Option (Int32) := bif ixB x1 80 then some (((a 26 x1.toNatClampNeg) - (a 27 x1.toNatClampNeg)) - (a 28 x1.toNatClampNeg)) else none
set_option maxHeartbeats 4000000 in
set_option maxRecDepth 100000 in
theorem lb_X9_leftIn_0 {p : Program} {l : Launch} {e : Env} {s : State} {m : MethodId} {args : Array Value} {below : List Frame} {meth : Method} {c : Code} {D : va_G} {E : Nat → ClassId} {sz : Nat} {M : Nat → Nat → Nat → Int32} {a : AS} {ρ : YR} {w : Nat} {r0 : Int32} (C : cx p s m args meth c D E (Aof (mx M a, ρ) [] s.heap.size) cX9_leftIn 2 "TradeLineModel") (hr : meth.sig.returnType = (some .int)) (hz : s.heap.size = sz) (hρ : rsh ρ) {x1 : Int32}   (h : f_X9_leftIn  w a x1 = some r0) : G p l e ({ frames := 0, cells := 0, slots := 0, locals := 0 } : Room) s m args below meth c D E (Aof (mx M a, ρ) [] s.heap.size) 2 (MQ below (cQ D E sz (mx M a, ρ) [] (pI (fun r u => r = r0 ∧ u = ((mx M a, ρ), [])))) args s 0 0 (Aof (mx M a, ρ) [] s.heap.size)) (mx M a, ρ) [] 0 0 0 [(0, .ref (ρ.2.2.2 40 0)), (1, .int x1)] [] := by
  unfold f_X9_leftIn at h
  refine g_aload_n C dX9_leftIn_0 rfl 0 rfl ?_
  refine g_get (k := 40) (i := 0) (ref := "TradeLineModel") (v := .ref (ρ.2.2.2 (40 + 26) 0)) C rfl (lvY0 hρ) rfl rfl inGX9 26 (by decide) gw_1355 (fun _ h => h) rfl dX9_leftIn_1 ?_
  refine g_iload_n C dX9_leftIn_4 rfl 1 rfl ?_
  obtain ⟨g1, h⟩ := of_guard h
  refine q_iald C hρ (j := 26) (N := 80) (List.mem_of_getElem? (i := 22) rfl) rfl rfl g1 dX9_leftIn_5 ?_
  refine g_aload_n C dX9_leftIn_6 rfl 0 rfl ?_
  refine g_get (k := 40) (i := 0) (ref := "TradeLineModel") (v := .ref (ρ.2.2.2 (40 + 27) 0)) C rfl (lvY0 hρ) rfl rfl inGX9 27 (by decide) gw_1356 (fun _ h => h) rfl dX9_leftIn_7 ?_
  refine g_iload_n C dX9_leftIn_10 rfl 1 rfl ?_
  refine q_iald C hρ (j := 27) (N := 80) (List.mem_of_getElem? (i := 23) rfl) rfl rfl g1 dX9_leftIn_11 ?_
  refine g_isub C dX9_leftIn_12 ?_
  refine g_aload_n C dX9_leftIn_13 rfl 0 rfl ?_
  refine g_get (k := 40) (i := 0) (ref := "TradeLineModel") (v := .ref (ρ.2.2.2 (40 + 28) 0)) C rfl (lvY0 hρ) rfl rfl inGX9 28 (by decide) gw_1357 (fun _ h => h) rfl dX9_leftIn_14 ?_
  refine g_iload_n C dX9_leftIn_17 rfl 1 rfl ?_
  refine q_iald C hρ (j := 28) (N := 80) (List.mem_of_getElem? (i := 24) rfl) rfl rfl g1 dX9_leftIn_18 ?_
  refine g_isub C dX9_leftIn_19 ?_
  exact g_iret C hr rfl hz ⟨rfl, rfl, fun _ => rfl, fun _ => rfl⟩ ⟨Option.some.inj h, rfl⟩ (fun j x h => by simp at h) dX9_leftIn_20
theorem k_X9_leftIn (l : Launch) (M : Nat → Nat → Nat → Int32) (ρ : YR) (hρ : rsh ρ) (w : Nat) (a : AS) (x1 : Int32) (r0 : Int32) (h : f_X9_leftIn w a x1 = some r0) : ∀ D E sz, Met l yX9_leftIn gwX9_leftIn ({ frames := 0, cells := 0, slots := 0, locals := 0 } : Room) (cP D E sz (mx M a, ρ) [] [.ref (ρ.2.2.2 40 0), .int x1]) (cQ D E sz (mx M a, ρ) [] (pI (fun r u => r = r0 ∧ u = ((mx M a, ρ), [])))) (0) (0) (Aof (mx M a, ρ) [] sz) := by
  intro D E sz
  refine g_of (cc := cX9_leftIn) (maxL := 2) (ret := (some .int)) (own := "TradeLineModel") (by decide) rfl rfl (Nat.le_of_ble_eq_true rfl) ?_
  intro p e s m args below meth c C hr hin hz ha hwr
  refine g_lv [0, 1] rfl ?_
  exact lb_X9_leftIn_0 C hr hz hρ h
noncomputable def b_X9_trades_33  (w : Nat) (a : AS) (x1 x2 x3 s0 : Int32) : Option (AS × Int32) := yl ((a 0 35)) (fun t4 => bif ixB t4 100 then yl (up2 a 36 t4.toNatClampNeg x1) (fun a6 => yl (up2 a6 37 t4.toNatClampNeg (x2 / (2 : Int32))) (fun a7 => yl (up2 a7 38 t4.toNatClampNeg (a7 0 44)) (fun a8 => yl (up2 a8 39 t4.toNatClampNeg s0) (fun a9 => bif ixB x2 6 then yl (up2 a9 40 t4.toNatClampNeg (a9 33 x2.toNatClampNeg)) (fun a11 => bif ixB ((100 : Int32) + t4) 200 then yl (up2 a11 41 ((100 : Int32) + t4).toNatClampNeg (a11 33 x2.toNatClampNeg)) (fun a13 => yl (up2 a13 42 ((100 : Int32) + t4).toNatClampNeg (vp_nar .boolean (1 : Int32))) (fun a14 => yl (up2 a14 0 35 ((a14 0 35) + (1 : Int32))) (fun a15 => bif ixB x3 80 then yl (up2 a15 27 x3.toNatClampNeg ((a15 27 x3.toNatClampNeg) + s0)) (fun a17 => yl (up2 a17 34 x2.toNatClampNeg ((a17 34 x2.toNatClampNeg) - s0)) (fun a18 => some (a18, (0 : Int32)))) else none))) else none) else none)))) else none)
set_option maxHeartbeats 4000000 in
set_option maxRecDepth 100000 in
theorem lb_X9_trades_33 {p : Program} {l : Launch} {e : Env} {s : State} {m : MethodId} {args : Array Value} {below : List Frame} {meth : Method} {c : Code} {D : va_G} {E : Nat → ClassId} {sz : Nat} {M : Nat → Nat → Nat → Int32} {a0 : AS} {ρ : YR} {w : Nat} {r0 : AS × Int32} (C : cx p s m args meth c D E (Aof (mx M a0, ρ) [] s.heap.size) cX9_trades 6 "TradeLineModel") (hr : meth.sig.returnType = none) (hz : s.heap.size = sz) (hρ : rsh ρ) {a : AS} {x1 x2 x3 s0 : Int32}   (h : b_X9_trades_33  w a x1 x2 x3 s0 = some r0) : G p l e ({ frames := 1, cells := 0, slots := 0, locals := 21 } : Room) s m args below meth c D E (Aof (mx M a0, ρ) [] s.heap.size) 6 (MQ below (cQ D E sz (mx M a0, ρ) [] (pV (fun u => u = ((mx M r0.1, ρ), [])))) args s 0 0 (Aof (mx M a0, ρ) [] s.heap.size)) (mx M a, ρ) [] 0 0 33 [(0, .ref (ρ.2.2.2 40 0)), (1, .int x1), (2, .int x2), (3, .int x3)] [.int s0] := by
  unfold b_X9_trades_33 at h
  refine g_istore (lv' := [(4, .int s0), (0, .ref (ρ.2.2.2 40 0)), (1, .int x1), (2, .int x2), (3, .int x3)]) C dX9_trades_33 (by decide) rfl ?_
  refine g_aload_n C dX9_trades_35 rfl 1 rfl ?_
  refine g_get (k := 40) (i := 0) (ref := "TradeLineModel") (v := .int (a 0 35)) C rfl (lvY0 hρ) rfl rfl inGX9 35 (by decide) gw_1364 (fun _ h => h) rfl dX9_trades_36 ?_
  refine q_topi (fun t4 et4 => ?_)
  replace h := yl_of h et4
  refine g_istore (lv' := [(5, .int t4), (4, .int s0), (0, .ref (ρ.2.2.2 40 0)), (1, .int x1), (2, .int x2), (3, .int x3)]) C dX9_trades_39 (by decide) rfl ?_
  refine g_aload_n C dX9_trades_41 rfl 2 rfl ?_
  refine g_get (k := 40) (i := 0) (ref := "TradeLineModel") (v := .ref (ρ.2.2.2 (40 + 36) 0)) C rfl (lvY0 hρ) rfl rfl inGX9 36 (by decide) gw_1365 (fun _ h => h) rfl dX9_trades_42 ?_
  refine g_iload C dX9_trades_45 0 rfl ?_
  refine g_iload_n C dX9_trades_47 rfl 3 rfl ?_
  obtain ⟨g5, h⟩ := of_guard h
  refine q_iast C hρ (j := 36) (N := 100) (List.mem_of_getElem? (i := 30) rfl) rfl rfl g5 dX9_trades_48 (fun a6 ea6 => ?_)
  replace h := yl_of h ea6
  refine g_aload_n C dX9_trades_49 rfl 2 rfl ?_
  refine g_get (k := 40) (i := 0) (ref := "TradeLineModel") (v := .ref (ρ.2.2.2 (40 + 37) 0)) C rfl (lvY0 hρ) rfl rfl inGX9 37 (by decide) gw_1366 (fun _ h => h) rfl dX9_trades_50 ?_
  refine g_iload C dX9_trades_53 0 rfl ?_
  refine g_iload_n C dX9_trades_55 rfl 4 rfl ?_
  refine g_iconst (v := (2 : Int32)) C dX9_trades_56 (by decide) ?_
  refine g_idiv C dX9_trades_57 (by decide) ?_
  refine q_iast C hρ (j := 37) (N := 100) (List.mem_of_getElem? (i := 31) rfl) rfl rfl g5 dX9_trades_58 (fun a7 ea7 => ?_)
  replace h := yl_of h ea7
  refine g_aload_n C dX9_trades_59 rfl 2 rfl ?_
  refine g_get (k := 40) (i := 0) (ref := "TradeLineModel") (v := .ref (ρ.2.2.2 (40 + 38) 0)) C rfl (lvY0 hρ) rfl rfl inGX9 38 (by decide) gw_1367 (fun _ h => h) rfl dX9_trades_60 ?_
  refine g_iload C dX9_trades_63 0 rfl ?_
  refine g_aload_n C dX9_trades_65 rfl 2 rfl ?_
  refine g_get (k := 40) (i := 0) (ref := "TradeLineModel") (v := .int (a7 0 44)) C rfl (lvY0 hρ) rfl rfl inGX9 44 (by decide) gw_1373 (fun _ h => h) rfl dX9_trades_66 ?_
  refine q_iast C hρ (j := 38) (N := 100) (List.mem_of_getElem? (i := 32) rfl) rfl rfl g5 dX9_trades_69 (fun a8 ea8 => ?_)
  replace h := yl_of h ea8
  refine g_aload_n C dX9_trades_70 rfl 2 rfl ?_
  refine g_get (k := 40) (i := 0) (ref := "TradeLineModel") (v := .ref (ρ.2.2.2 (40 + 39) 0)) C rfl (lvY0 hρ) rfl rfl inGX9 39 (by decide) gw_1368 (fun _ h => h) rfl dX9_trades_71 ?_
  refine g_iload C dX9_trades_74 0 rfl ?_
  refine g_iload C dX9_trades_76 1 rfl ?_
  refine q_iast C hρ (j := 39) (N := 100) (List.mem_of_getElem? (i := 33) rfl) rfl rfl g5 dX9_trades_78 (fun a9 ea9 => ?_)
  replace h := yl_of h ea9
  refine g_aload_n C dX9_trades_79 rfl 2 rfl ?_
  refine g_get (k := 40) (i := 0) (ref := "TradeLineModel") (v := .ref (ρ.2.2.2 (40 + 40) 0)) C rfl (lvY0 hρ) rfl rfl inGX9 40 (by decide) gw_1369 (fun _ h => h) rfl dX9_trades_80 ?_
  refine g_iload C dX9_trades_83 0 rfl ?_
  refine g_aload_n C dX9_trades_85 rfl 2 rfl ?_
  refine g_get (k := 40) (i := 0) (ref := "TradeLineModel") (v := .ref (ρ.2.2.2 (40 + 33) 0)) C rfl (lvY0 hρ) rfl rfl inGX9 33 (by decide) gw_1362 (fun _ h => h) rfl dX9_trades_86 ?_
  refine g_iload_n C dX9_trades_89 rfl 4 rfl ?_
  obtain ⟨g10, h⟩ := of_guard h
  refine q_iald C hρ (j := 33) (N := 6) (List.mem_of_getElem? (i := 28) rfl) rfl rfl g10 dX9_trades_90 ?_
  refine q_iast C hρ (j := 40) (N := 100) (List.mem_of_getElem? (i := 34) rfl) rfl rfl g5 dX9_trades_91 (fun a11 ea11 => ?_)
  replace h := yl_of h ea11
  refine g_aload_n C dX9_trades_92 rfl 2 rfl ?_
  refine g_get (k := 40) (i := 0) (ref := "TradeLineModel") (v := .ref (ρ.2.2.2 (40 + 41) 0)) C rfl (lvY0 hρ) rfl rfl inGX9 41 (by decide) gw_1370 (fun _ h => h) rfl dX9_trades_93 ?_
  refine g_bipush (v := (100 : Int32)) C dX9_trades_96 (by decide) ?_
  refine g_iload C dX9_trades_98 0 rfl ?_
  refine g_iadd C dX9_trades_100 ?_
  refine g_aload_n C dX9_trades_101 rfl 2 rfl ?_
  refine g_get (k := 40) (i := 0) (ref := "TradeLineModel") (v := .ref (ρ.2.2.2 (40 + 33) 0)) C rfl (lvY0 hρ) rfl rfl inGX9 33 (by decide) gw_1362 (fun _ h => h) rfl dX9_trades_102 ?_
  refine g_iload_n C dX9_trades_105 rfl 4 rfl ?_
  refine q_iald C hρ (j := 33) (N := 6) (List.mem_of_getElem? (i := 28) rfl) rfl rfl g10 dX9_trades_106 ?_
  obtain ⟨g12, h⟩ := of_guard h
  refine q_iast C hρ (j := 41) (N := 200) (List.mem_of_getElem? (i := 35) rfl) rfl rfl g12 dX9_trades_107 (fun a13 ea13 => ?_)
  replace h := yl_of h ea13
  refine g_aload_n C dX9_trades_108 rfl 2 rfl ?_
  refine g_get (k := 40) (i := 0) (ref := "TradeLineModel") (v := .ref (ρ.2.2.2 (40 + 42) 0)) C rfl (lvY0 hρ) rfl rfl inGX9 42 (by decide) gw_1371 (fun _ h => h) rfl dX9_trades_109 ?_
  refine g_bipush (v := (100 : Int32)) C dX9_trades_112 (by decide) ?_
  refine g_iload C dX9_trades_114 0 rfl ?_
  refine g_iadd C dX9_trades_116 ?_
  refine g_iconst (v := (1 : Int32)) C dX9_trades_117 (by decide) ?_
  refine q_zast C hρ (j := 42) (N := 200) (List.mem_of_getElem? (i := 36) rfl) rfl rfl g12 dX9_trades_118 (fun a14 ea14 => ?_)
  replace h := yl_of h ea14
  refine g_aload_n C dX9_trades_119 rfl 2 rfl ?_
  refine g_dup C dX9_trades_120 rfl ?_
  refine g_get (k := 40) (i := 0) (ref := "TradeLineModel") (v := .int (a14 0 35)) C rfl (lvY0 hρ) rfl rfl inGX9 35 (by decide) gw_1364 (fun _ h => h) rfl dX9_trades_121 ?_
  refine g_iconst (v := (1 : Int32)) C dX9_trades_124 (by decide) ?_
  refine g_iadd C dX9_trades_125 ?_
  refine q_put C hρ (j := 35) (by decide) gw_1364 rfl rfl (tyX9_ok 35 (by decide)) rfl rfl (by simp [fvs, up1]) dX9_trades_126 (fun a15 ea15 => ?_)
  replace h := yl_of h ea15
  refine g_aload_n C dX9_trades_129 rfl 2 rfl ?_
  refine g_get (k := 40) (i := 0) (ref := "TradeLineModel") (v := .ref (ρ.2.2.2 (40 + 27) 0)) C rfl (lvY0 hρ) rfl rfl inGX9 27 (by decide) gw_1356 (fun _ h => h) rfl dX9_trades_130 ?_
  refine g_iload_n C dX9_trades_133 rfl 5 rfl ?_
  refine g_dup2 C dX9_trades_134 rfl rfl ?_
  obtain ⟨g16, h⟩ := of_guard h
  refine q_iald C hρ (j := 27) (N := 80) (List.mem_of_getElem? (i := 23) rfl) rfl rfl g16 dX9_trades_135 ?_
  refine g_iload C dX9_trades_136 1 rfl ?_
  refine g_iadd C dX9_trades_138 ?_
  refine q_iast C hρ (j := 27) (N := 80) (List.mem_of_getElem? (i := 23) rfl) rfl rfl g16 dX9_trades_139 (fun a17 ea17 => ?_)
  replace h := yl_of h ea17
  refine g_aload_n C dX9_trades_140 rfl 2 rfl ?_
  refine g_get (k := 40) (i := 0) (ref := "TradeLineModel") (v := .ref (ρ.2.2.2 (40 + 34) 0)) C rfl (lvY0 hρ) rfl rfl inGX9 34 (by decide) gw_1363 (fun _ h => h) rfl dX9_trades_141 ?_
  refine g_iload_n C dX9_trades_144 rfl 4 rfl ?_
  refine g_dup2 C dX9_trades_145 rfl rfl ?_
  refine q_iald C hρ (j := 34) (N := 6) (List.mem_of_getElem? (i := 29) rfl) rfl rfl g10 dX9_trades_146 ?_
  refine g_iload C dX9_trades_147 1 rfl ?_
  refine g_isub C dX9_trades_149 ?_
  refine q_iast C hρ (j := 34) (N := 6) (List.mem_of_getElem? (i := 29) rfl) rfl rfl g10 dX9_trades_150 (fun a18 ea18 => ?_)
  replace h := yl_of h ea18
  obtain rfl := Option.some.inj h
  exact g_vret C hr hz ⟨rfl, rfl, fun _ => rfl, fun _ => rfl⟩ rfl (fun j x h => by simp at h) dX9_trades_151
noncomputable def f_X9_trades  (w : Nat) (a : AS) (x1 x2 : Int32) : Option (AS × Int32) := yl (((40 : Int32) + x1)) (fun t1 => (f_X9_leftIn w a t1).bind (fun v2 => bif ixB x2 6 then (if (a 34 x2.toNatClampNeg) ≤ v2 then (b_X9_trades_33  w a x1 x2 t1 (a 34 x2.toNatClampNeg)) else ((f_X9_leftIn w a t1).bind (fun v19 => b_X9_trades_33  w a x1 x2 t1 v19))) else none))
set_option maxHeartbeats 4000000 in
set_option maxRecDepth 100000 in
theorem lb_X9_trades_0 {p : Program} {l : Launch} {e : Env} {s : State} {m : MethodId} {args : Array Value} {below : List Frame} {meth : Method} {c : Code} {D : va_G} {E : Nat → ClassId} {sz : Nat} {M : Nat → Nat → Nat → Int32} {a0 : AS} {ρ : YR} {w : Nat} {r0 : AS × Int32} (C : cx p s m args meth c D E (Aof (mx M a0, ρ) [] s.heap.size) cX9_trades 6 "TradeLineModel") (hr : meth.sig.returnType = none) (hz : s.heap.size = sz) (hρ : rsh ρ) {a : AS} {x1 x2 : Int32}   (h : f_X9_trades  w a x1 x2 = some r0) : G p l e ({ frames := 1, cells := 0, slots := 0, locals := 21 } : Room) s m args below meth c D E (Aof (mx M a0, ρ) [] s.heap.size) 6 (MQ below (cQ D E sz (mx M a0, ρ) [] (pV (fun u => u = ((mx M r0.1, ρ), [])))) args s 0 0 (Aof (mx M a0, ρ) [] s.heap.size)) (mx M a, ρ) [] 0 0 0 [(0, .ref (ρ.2.2.2 40 0)), (1, .int x1), (2, .int x2)] [] := by
  unfold f_X9_trades at h
  refine g_bipush (v := (40 : Int32)) C dX9_trades_0 (by decide) ?_
  refine g_iload_n C dX9_trades_2 rfl 1 rfl ?_
  refine g_iadd C dX9_trades_3 ?_
  refine q_topi (fun t1 et1 => ?_)
  replace h := yl_of h et1
  refine g_istore_n (lv' := [(3, .int t1), (0, .ref (ρ.2.2.2 40 0)), (1, .int x1), (2, .int x2)]) C dX9_trades_4 rfl (by decide) rfl ?_
  refine g_aload_n C dX9_trades_5 rfl 1 rfl ?_
  refine g_iload_n C dX9_trades_6 rfl 0 rfl ?_
  obtain ⟨v2, hv2, h⟩ := bind_of h
  refine g_cVi (n := 1) (exc := []) (exr := []) C [_] _ rfl rfl [] [] rfl rfl rfl rfl (fun _ h => absurd h (by simp)) (fun _ h => absurd h (by simp)) (fun _ h => absurd h (by simp)) (fun sz => k_X9_leftIn l M ρ hρ w _ _ _ hv2 D E sz) rfl gw_1563 gw_9 gw_1560 gw_1562 gs_59 ⟨by decide +kernel, by decide +kernel, by decide +kernel⟩ ⟨rfl, rfl⟩ ⟨Nat.le_of_ble_eq_true rfl, Nat.le_of_ble_eq_true rfl⟩ (rcvT (lvY0 hρ) rfl rfl rfl) (Nat.le_of_ble_eq_true rfl) dX9_trades_7 ⟨by decide, by decide⟩ (fun r u hp hx => ?_)
  obtain ⟨er, rfl⟩ := hp
  rw [er]
  try dsimp only [List.append_nil]
  refine g_aload_n C dX9_trades_10 rfl 1 rfl ?_
  refine g_get (k := 40) (i := 0) (ref := "TradeLineModel") (v := .ref (ρ.2.2.2 (40 + 34) 0)) C rfl (lvY0 hρ) rfl rfl inGX9 34 (by decide) gw_1363 (fun _ h => h) rfl dX9_trades_11 ?_
  refine g_iload_n C dX9_trades_14 rfl 3 rfl ?_
  obtain ⟨g3, h⟩ := of_guard h
  refine q_iald C hρ (j := 34) (N := 6) (List.mem_of_getElem? (i := 29) rfl) rfl rfl g3 dX9_trades_15 ?_
  refine g_icmp_ge (tgt := 27) C dX9_trades_16 (by decide) (fun c16 => ?_) (fun c16 => ?_)
  · replace h := (if_pos c16).symm.trans h
    refine g_aload_n C dX9_trades_27 rfl 1 rfl ?_
    refine g_get (k := 40) (i := 0) (ref := "TradeLineModel") (v := .ref (ρ.2.2.2 (40 + 34) 0)) C rfl (lvY0 hρ) rfl rfl inGX9 34 (by decide) gw_1363 (fun _ h => h) rfl dX9_trades_28 ?_
    refine g_iload_n C dX9_trades_31 rfl 3 rfl ?_
    refine q_iald C hρ (j := 34) (N := 6) (List.mem_of_getElem? (i := 29) rfl) rfl rfl g3 dX9_trades_32 ?_
    refine g_lv [1, 2, 3, 0] rfl ?_
    exact lb_X9_trades_33 C hr hz hρ  h
  · replace h := (if_neg c16).symm.trans h
    refine g_aload_n C dX9_trades_19 rfl 1 rfl ?_
    refine g_iload_n C dX9_trades_20 rfl 0 rfl ?_
    obtain ⟨v19, hv19, h⟩ := bind_of h
    refine g_cVi (n := 1) (exc := []) (exr := []) C [_] _ rfl rfl [] [] rfl rfl rfl rfl (fun _ h => absurd h (by simp)) (fun _ h => absurd h (by simp)) (fun _ h => absurd h (by simp)) (fun sz => k_X9_leftIn l M ρ hρ w _ _ _ hv19 D E sz) rfl gw_1563 gw_9 gw_1560 gw_1562 gs_59 ⟨by decide +kernel, by decide +kernel, by decide +kernel⟩ ⟨rfl, rfl⟩ ⟨Nat.le_of_ble_eq_true rfl, Nat.le_of_ble_eq_true rfl⟩ (rcvT (lvY0 hρ) rfl rfl rfl) (Nat.le_of_ble_eq_true rfl) dX9_trades_21 ⟨by decide, by decide⟩ (fun r u hp hx => ?_)
    obtain ⟨er, rfl⟩ := hp
    rw [er]
    try dsimp only [List.append_nil]
    refine g_goto (tgt := 33) C dX9_trades_24 (by decide) ?_
    refine g_lv [1, 2, 3, 0] rfl ?_
    exact lb_X9_trades_33 C hr hz hρ  h
theorem k_X9_trades (l : Launch) (M : Nat → Nat → Nat → Int32) (ρ : YR) (hρ : rsh ρ) (w : Nat) (a : AS) (x1 x2 : Int32) (r0 : AS × Int32) (h : f_X9_trades w a x1 x2 = some r0) : ∀ D E sz, Met l yX9_trades gwX9_trades ({ frames := 1, cells := 0, slots := 0, locals := 21 } : Room) (cP D E sz (mx M a, ρ) [] [.ref (ρ.2.2.2 40 0), .int x1, .int x2]) (cQ D E sz (mx M a, ρ) [] (pV (fun u => u = ((mx M r0.1, ρ), [])))) (0) (0) (Aof (mx M a, ρ) [] sz) := by
  intro D E sz
  refine g_of (cc := cX9_trades) (maxL := 6) (ret := none) (own := "TradeLineModel") (by decide) rfl rfl (Nat.le_of_ble_eq_true rfl) ?_
  intro p e s m args below meth c C hr hin hz ha hwr
  refine g_lv [0, 1, 2] rfl ?_
  exact lb_X9_trades_0 C hr hz hρ h
