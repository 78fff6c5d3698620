noncomputable def b_X9_agree_101 (k9 : AS → Int32 → Int32 → Option (AS × Int32)) (w : Nat) (a : AS) (x2 s0 : Int32) : Option (AS × Int32) := yl (x2 + (1 : Int32)) (fun t5 => k9 a s0 t5)
set_option maxHeartbeats 4000000 in
set_option maxRecDepth 100000 in
theorem lb_X9_agree_101 {p : Program} {l : Launch} {e : Env} {s : State} {m : MethodId} {args : Array Value} {below : List Frame} {meth : Method} {c : Code} {D : va_G} {E : Nat → ClassId} {sz : Nat} {M : Nat → Nat → Nat → Int32} {a0 : AS} {ρ : YR} {w : Nat} {r0 : AS × Int32} (C : cx p s m args meth c D E (Aof (mx M a0, ρ) [] s.heap.size) cX9_agree 4 "TradeLineModel") (hr : meth.sig.returnType = (some .boolean)) (hz : s.heap.size = sz) (hρ : rsh ρ) {a : AS} {x2 s0 : Int32} {k9 : AS → Int32 → Int32 → Option (AS × Int32)} (hk9 : ∀ (a1 : AS) (z1 z2 : Int32), k9 a1 z1 z2 = some r0 → G p l e ({ frames := 2, cells := 0, slots := 0, locals := 44 } : Room) s m args below meth c D E (Aof (mx M a0, ρ) [] s.heap.size) 4 (MQ below (cQ D E sz (mx M a0, ρ) [] (pI (fun r u => r = r0.2 ∧ u = ((mx M r0.1, ρ), [])))) args s 0 0 (Aof (mx M a0, ρ) [] s.heap.size)) (mx M a1, ρ) [] 0 0 9 [(0, .ref (ρ.2.2.2 40 0)), (1, .int z1), (2, .int z2)] []) (h : b_X9_agree_101 k9 w a x2 s0 = some r0) : G p l e ({ frames := 2, cells := 0, slots := 0, locals := 44 } : Room) s m args below meth c D E (Aof (mx M a0, ρ) [] s.heap.size) 4 (MQ below (cQ D E sz (mx M a0, ρ) [] (pI (fun r u => r = r0.2 ∧ u = ((mx M r0.1, ρ), [])))) args s 0 0 (Aof (mx M a0, ρ) [] s.heap.size)) (mx M a, ρ) [] 0 0 101 [(0, .ref (ρ.2.2.2 40 0)), (2, .int x2)] [.int s0] := by
  unfold b_X9_agree_101 at h
  refine g_istore_n (lv' := [(1, .int s0), (0, .ref (ρ.2.2.2 40 0)), (2, .int x2)]) C dX9_agree_101 rfl (by decide) rfl ?_
  obtain ⟨t5, et5⟩ : ∃ y : Int32, x2 + (1 : Int32) = y := ⟨_, rfl⟩
  replace h := yl_of h et5
  refine g_iinc (v := t5) (lv' := [(2, .int t5), (1, .int s0), (0, .ref (ρ.2.2.2 40 0))]) C dX9_agree_102 2 rfl (by rw [← et5]; rfl) (by decide) rfl ?_
  refine g_goto (tgt := 9) C dX9_agree_105 (by decide) ?_
  refine g_lv [2, 1, 0] rfl ?_
  exact hk9 _ _ _ h
noncomputable def b_X9_agree_100 (k9 : AS → Int32 → Int32 → Option (AS × Int32)) (w : Nat) (a : AS) (x2 : Int32) : Option (AS × Int32) := b_X9_agree_101 k9 w a x2 (0 : Int32)
set_option maxHeartbeats 4000000 in
set_option maxRecDepth 100000 in
theorem lb_X9_agree_100 {p : Program} {l : Launch} {e : Env} {s : State} {m : MethodId} {args : Array Value} {below : List Frame} {meth : Method} {c : Code} {D : va_G} {E : Nat → ClassId} {sz : Nat} {M : Nat → Nat → Nat → Int32} {a0 : AS} {ρ : YR} {w : Nat} {r0 : AS × Int32} (C : cx p s m args meth c D E (Aof (mx M a0, ρ) [] s.heap.size) cX9_agree 4 "TradeLineModel") (hr : meth.sig.returnType = (some .boolean)) (hz : s.heap.size = sz) (hρ : rsh ρ) {a : AS} {x2 : Int32} {k9 : AS → Int32 → Int32 → Option (AS × Int32)} (hk9 : ∀ (a1 : AS) (z1 z2 : Int32), k9 a1 z1 z2 = some r0 → G p l e ({ frames := 2, cells := 0, slots := 0, locals := 44 } : Room) s m args below meth c D E (Aof (mx M a0, ρ) [] s.heap.size) 4 (MQ below (cQ D E sz (mx M a0, ρ) [] (pI (fun r u => r = r0.2 ∧ u = ((mx M r0.1, ρ), [])))) args s 0 0 (Aof (mx M a0, ρ) [] s.heap.size)) (mx M a1, ρ) [] 0 0 9 [(0, .ref (ρ.2.2.2 40 0)), (1, .int z1), (2, .int z2)] []) (h : b_X9_agree_100 k9 w a x2 = some r0) : G p l e ({ frames := 2, cells := 0, slots := 0, locals := 44 } : Room) s m args below meth c D E (Aof (mx M a0, ρ) [] s.heap.size) 4 (MQ below (cQ D E sz (mx M a0, ρ) [] (pI (fun r u => r = r0.2 ∧ u = ((mx M r0.1, ρ), [])))) args s 0 0 (Aof (mx M a0, ρ) [] s.heap.size)) (mx M a, ρ) [] 0 0 100 [(0, .ref (ρ.2.2.2 40 0)), (2, .int x2)] [] := by
  unfold b_X9_agree_100 at h
  refine g_iconst (v := (0 : Int32)) C dX9_agree_100 (by decide) ?_
  refine g_lv [0, 1] rfl ?_
  exact lb_X9_agree_101 C hr hz hρ hk9 h
noncomputable def b_X9_agree_96 (k9 : AS → Int32 → Int32 → Option (AS × Int32)) (w : Nat) (a : AS) (x2 : Int32) : Option (AS × Int32) := b_X9_agree_101 k9 w a x2 (1 : Int32)
set_option maxHeartbeats 4000000 in
set_option maxRecDepth 100000 in
theorem lb_X9_agree_96 {p : Program} {l : Launch} {e : Env} {s : State} {m : MethodId} {args : Array Value} {below : List Frame} {meth : Method} {c : Code} {D : va_G} {E : Nat → ClassId} {sz : Nat} {M : Nat → Nat → Nat → Int32} {a0 : AS} {ρ : YR} {w : Nat} {r0 : AS × Int32} (C : cx p s m args meth c D E (Aof (mx M a0, ρ) [] s.heap.size) cX9_agree 4 "TradeLineModel") (hr : meth.sig.returnType = (some .boolean)) (hz : s.heap.size = sz) (hρ : rsh ρ) {a : AS} {x2 : Int32} {k9 : AS → Int32 → Int32 → Option (AS × Int32)} (hk9 : ∀ (a1 : AS) (z1 z2 : Int32), k9 a1 z1 z2 = some r0 → G p l e ({ frames := 2, cells := 0, slots := 0, locals := 44 } : Room) s m args below meth c D E (Aof (mx M a0, ρ) [] s.heap.size) 4 (MQ below (cQ D E sz (mx M a0, ρ) [] (pI (fun r u => r = r0.2 ∧ u = ((mx M r0.1, ρ), [])))) args s 0 0 (Aof (mx M a0, ρ) [] s.heap.size)) (mx M a1, ρ) [] 0 0 9 [(0, .ref (ρ.2.2.2 40 0)), (1, .int z1), (2, .int z2)] []) (h : b_X9_agree_96 k9 w a x2 = some r0) : G p l e ({ frames := 2, cells := 0, slots := 0, locals := 44 } : Room) s m args below meth c D E (Aof (mx M a0, ρ) [] s.heap.size) 4 (MQ below (cQ D E sz (mx M a0, ρ) [] (pI (fun r u => r = r0.2 ∧ u = ((mx M r0.1, ρ), [])))) args s 0 0 (Aof (mx M a0, ρ) [] s.heap.size)) (mx M a, ρ) [] 0 0 96 [(0, .ref (ρ.2.2.2 40 0)), (2, .int x2)] [] := by
  unfold b_X9_agree_96 at h
  refine g_iconst (v := (1 : Int32)) C dX9_agree_96 (by decide) ?_
  refine g_goto (tgt := 101) C dX9_agree_97 (by decide) ?_
  refine g_lv [0, 1] rfl ?_
  exact lb_X9_agree_101 C hr hz hρ hk9 h
noncomputable def b_X9_agree_75 (k9 : AS → Int32 → Int32 → Option (AS × Int32)) (w : Nat) (a : AS) (x1 x2 s0 : Int32) : Option (AS × Int32) := (if x1 = (0 : Int32) then (b_X9_agree_100 k9 w a x2) else ((if s0 = (0 : Int32) then (bif ixB ((40 : Int32) + x2) 80 then (if (a 24 ((40 : Int32) + x2).toNatClampNeg) = (0 : Int32) then (b_X9_agree_96 k9 w a x2) else (b_X9_agree_100 k9 w a x2)) else none) else (b_X9_agree_96 k9 w a x2))))
set_option maxHeartbeats 4000000 in
set_option maxRecDepth 100000 in
theorem lb_X9_agree_75 {p : Program} {l : Launch} {e : Env} {s : State} {m : MethodId} {args : Array Value} {below : List Frame} {meth : Method} {c : Code} {D : va_G} {E : Nat → ClassId} {sz : Nat} {M : Nat → Nat → Nat → Int32} {a0 : AS} {ρ : YR} {w : Nat} {r0 : AS × Int32} (C : cx p s m args meth c D E (Aof (mx M a0, ρ) [] s.heap.size) cX9_agree 4 "TradeLineModel") (hr : meth.sig.returnType = (some .boolean)) (hz : s.heap.size = sz) (hρ : rsh ρ) {a : AS} {x1 x2 s0 : Int32} {k9 : AS → Int32 → Int32 → Option (AS × Int32)} (hk9 : ∀ (a1 : AS) (z1 z2 : Int32), k9 a1 z1 z2 = some r0 → G p l e ({ frames := 2, cells := 0, slots := 0, locals := 44 } : Room) s m args below meth c D E (Aof (mx M a0, ρ) [] s.heap.size) 4 (MQ below (cQ D E sz (mx M a0, ρ) [] (pI (fun r u => r = r0.2 ∧ u = ((mx M r0.1, ρ), [])))) args s 0 0 (Aof (mx M a0, ρ) [] s.heap.size)) (mx M a1, ρ) [] 0 0 9 [(0, .ref (ρ.2.2.2 40 0)), (1, .int z1), (2, .int z2)] []) (h : b_X9_agree_75 k9 w a x1 x2 s0 = some r0) : G p l e ({ frames := 2, cells := 0, slots := 0, locals := 44 } : Room) s m args below meth c D E (Aof (mx M a0, ρ) [] s.heap.size) 4 (MQ below (cQ D E sz (mx M a0, ρ) [] (pI (fun r u => r = r0.2 ∧ u = ((mx M r0.1, ρ), [])))) args s 0 0 (Aof (mx M a0, ρ) [] s.heap.size)) (mx M a, ρ) [] 0 0 75 [(0, .ref (ρ.2.2.2 40 0)), (1, .int x1), (2, .int x2)] [.int s0] := by
  unfold b_X9_agree_75 at h
  refine g_istore_n (lv' := [(3, .int s0), (0, .ref (ρ.2.2.2 40 0)), (1, .int x1), (2, .int x2)]) C dX9_agree_75 rfl (by decide) rfl ?_
  refine g_iload_n C dX9_agree_76 rfl 2 rfl ?_
  refine g_if_eq (tgt := 100) C dX9_agree_77 (by decide) (fun c77 => ?_) (fun c77 => ?_)
  · replace h := (if_pos c77).symm.trans h
    refine g_lv [1, 3] rfl ?_
    exact lb_X9_agree_100 C hr hz hρ hk9 h
  · replace h := (if_neg c77).symm.trans h
    refine g_iload_n C dX9_agree_80 rfl 0 rfl ?_
    refine g_if_ne (tgt := 96) C dX9_agree_81 (by decide) (fun c81 => ?_) (fun c81 => ?_)
    · replace h := (if_neg c81).symm.trans h
      refine g_lv [1, 3] rfl ?_
      exact lb_X9_agree_96 C hr hz hρ hk9 h
    · replace h := (if_pos c81).symm.trans h
      refine g_aload_n C dX9_agree_84 rfl 1 rfl ?_
      refine g_get (k := 40) (i := 0) (ref := "TradeLineModel") (v := .ref (ρ.2.2.2 (40 + 24) 0)) C rfl (lvY0 hρ) rfl rfl inGX9 24 (by decide) gw_1353 (fun _ h => h) rfl dX9_agree_85 ?_
      refine g_bipush (v := (40 : Int32)) C dX9_agree_88 (by decide) ?_
      refine g_iload_n C dX9_agree_90 rfl 3 rfl ?_
      refine g_iadd C dX9_agree_91 ?_
      obtain ⟨g6, h⟩ := of_guard h
      refine q_zald C hρ (j := 24) (N := 80) (List.mem_of_getElem? (i := 20) rfl) rfl rfl g6 dX9_agree_92 ?_
      refine g_if_ne (tgt := 100) C dX9_agree_93 (by decide) (fun c93 => ?_) (fun c93 => ?_)
      · replace h := (if_neg c93).symm.trans h
        refine g_lv [1, 3] rfl ?_
        exact lb_X9_agree_100 C hr hz hρ hk9 h
      · replace h := (if_pos c93).symm.trans h
        refine g_lv [1, 3] rfl ?_
        exact lb_X9_agree_96 C hr hz hρ hk9 h
noncomputable def b_X9_agree_74 (k9 : AS → Int32 → Int32 → Option (AS × Int32)) (w : Nat) (a : AS) (x1 x2 : Int32) : Option (AS × Int32) := b_X9_agree_75 k9 w a x1 x2 (0 : Int32)
set_option maxHeartbeats 4000000 in
set_option maxRecDepth 100000 in
theorem lb_X9_agree_74 {p : Program} {l : Launch} {e : Env} {s : State} {m : MethodId} {args : Array Value} {below : List Frame} {meth : Method} {c : Code} {D : va_G} {E : Nat → ClassId} {sz : Nat} {M : Nat → Nat → Nat → Int32} {a0 : AS} {ρ : YR} {w : Nat} {r0 : AS × Int32} (C : cx p s m args meth c D E (Aof (mx M a0, ρ) [] s.heap.size) cX9_agree 4 "TradeLineModel") (hr : meth.sig.returnType = (some .boolean)) (hz : s.heap.size = sz) (hρ : rsh ρ) {a : AS} {x1 x2 : Int32} {k9 : AS → Int32 → Int32 → Option (AS × Int32)} (hk9 : ∀ (a1 : AS) (z1 z2 : Int32), k9 a1 z1 z2 = some r0 → G p l e ({ frames := 2, cells := 0, slots := 0, locals := 44 } : Room) s m args below meth c D E (Aof (mx M a0, ρ) [] s.heap.size) 4 (MQ below (cQ D E sz (mx M a0, ρ) [] (pI (fun r u => r = r0.2 ∧ u = ((mx M r0.1, ρ), [])))) args s 0 0 (Aof (mx M a0, ρ) [] s.heap.size)) (mx M a1, ρ) [] 0 0 9 [(0, .ref (ρ.2.2.2 40 0)), (1, .int z1), (2, .int z2)] []) (h : b_X9_agree_74 k9 w a x1 x2 = some r0) : G p l e ({ frames := 2, cells := 0, slots := 0, locals := 44 } : Room) s m args below meth c D E (Aof (mx M a0, ρ) [] s.heap.size) 4 (MQ below (cQ D E sz (mx M a0, ρ) [] (pI (fun r u => r = r0.2 ∧ u = ((mx M r0.1, ρ), [])))) args s 0 0 (Aof (mx M a0, ρ) [] s.heap.size)) (mx M a, ρ) [] 0 0 74 [(0, .ref (ρ.2.2.2 40 0)), (1, .int x1), (2, .int x2)] [] := by
  unfold b_X9_agree_74 at h
  refine g_iconst (v := (0 : Int32)) C dX9_agree_74 (by decide) ?_
  refine g_lv [0, 1, 2] rfl ?_
  exact lb_X9_agree_75 C hr hz hρ hk9 h
noncomputable def b_X9_agree_9 (k9 : AS → Int32 → Int32 → Option (AS × Int32)) (w : Nat) (a : AS) (x1 x2 : Int32) : Option (AS × Int32) := (if (a 0 22) ≤ x2 then (bif boB x1 then some (a, x1) else none) else ((f_X9_leftOf w a (0 : Int32) x2).bind (fun v3 => (f_X9_leftIn w a ((40 : Int32) + x2)).bind (fun v4 => (if v3 = v4 then (bif ixB x2 80 then bif ixB ((40 : Int32) + x2) 80 then (if (a 27 x2.toNatClampNeg) = (a 27 ((40 : Int32) + x2).toNatClampNeg) then ((if (a 28 x2.toNatClampNeg) = (a 28 ((40 : Int32) + x2).toNatClampNeg) then (b_X9_agree_75 k9 w a x1 x2 (1 : Int32)) else (b_X9_agree_74 k9 w a x1 x2))) else (b_X9_agree_74 k9 w a x1 x2)) else none else none) else (b_X9_agree_74 k9 w a x1 x2))))))
set_option maxHeartbeats 4000000 in
set_option maxRecDepth 100000 in
theorem lb_X9_agree_9 {p : Program} {l : Launch} {e : Env} {s : State} {m : MethodId} {args : Array Value} {below : List Frame} {meth : Method} {c : Code} {D : va_G} {E : Nat → ClassId} {sz : Nat} {M : Nat → Nat → Nat → Int32} {a0 : AS} {ρ : YR} {w : Nat} {r0 : AS × Int32} (C : cx p s m args meth c D E (Aof (mx M a0, ρ) [] s.heap.size) cX9_agree 4 "TradeLineModel") (hr : meth.sig.returnType = (some .boolean)) (hz : s.heap.size = sz) (hρ : rsh ρ) {a : AS} {x1 x2 : Int32} {k9 : AS → Int32 → Int32 → Option (AS × Int32)} (hk9 : ∀ (a1 : AS) (z1 z2 : Int32), k9 a1 z1 z2 = some r0 → G p l e ({ frames := 2, cells := 0, slots := 0, locals := 44 } : Room) s m args below meth c D E (Aof (mx M a0, ρ) [] s.heap.size) 4 (MQ below (cQ D E sz (mx M a0, ρ) [] (pI (fun r u => r = r0.2 ∧ u = ((mx M r0.1, ρ), [])))) args s 0 0 (Aof (mx M a0, ρ) [] s.heap.size)) (mx M a1, ρ) [] 0 0 9 [(0, .ref (ρ.2.2.2 40 0)), (1, .int z1), (2, .int z2)] []) (h : b_X9_agree_9 k9 w a x1 x2 = some r0) : G p l e ({ frames := 2, cells := 0, slots := 0, locals := 44 } : Room) s m args below meth c D E (Aof (mx M a0, ρ) [] s.heap.size) 4 (MQ below (cQ D E sz (mx M a0, ρ) [] (pI (fun r u => r = r0.2 ∧ u = ((mx M r0.1, ρ), [])))) args s 0 0 (Aof (mx M a0, ρ) [] s.heap.size)) (mx M a, ρ) [] 0 0 9 [(0, .ref (ρ.2.2.2 40 0)), (1, .int x1), (2, .int x2)] [] := by
  unfold b_X9_agree_9 at h
  refine g_iload_n C dX9_agree_9 rfl 2 rfl ?_
  refine g_aload_n C dX9_agree_10 rfl 0 rfl ?_
  refine g_get (k := 40) (i := 0) (ref := "TradeLineModel") (v := .int (a 0 22)) C rfl (lvY0 hρ) rfl rfl inGX9 22 (by decide) gw_1351 (fun _ h => h) rfl dX9_agree_11 ?_
  refine g_icmp_ge (tgt := 108) C dX9_agree_14 (by decide) (fun c14 => ?_) (fun c14 => ?_)
  · replace h := (if_pos c14).symm.trans h
    refine g_iload_n C dX9_agree_108 rfl 1 rfl ?_
    obtain ⟨g2, h⟩ := of_guard h
    obtain rfl := Option.some.inj h
    exact g_iret C hr (boB_n g2) hz ⟨rfl, rfl, fun _ => rfl, fun _ => rfl⟩ ⟨rfl, rfl⟩ (fun j x h => by simp at h) dX9_agree_109
  · replace h := (if_neg c14).symm.trans h
    refine g_aload_n C dX9_agree_17 rfl 0 rfl ?_
    refine g_iconst (v := (0 : Int32)) C dX9_agree_18 (by decide) ?_
    refine g_iload_n C dX9_agree_19 rfl 2 rfl ?_
    obtain ⟨v3, hv3, h⟩ := bind_of h
    refine g_cVi (n := 2) (exc := []) (exr := []) C [_, _] _ rfl rfl [] [] rfl rfl rfl rfl (fun _ h => absurd h (by simp)) (fun _ h => absurd h (by simp)) (fun _ h => absurd h (by simp)) (fun sz => k_X9_leftOf l M ρ hρ w _ _ _ _ hv3 D E sz) rfl gw_1762 gw_9 gw_1759 gw_1761 gs_83 ⟨by decide +kernel, by decide +kernel, by decide +kernel⟩ ⟨rfl, rfl⟩ ⟨Nat.le_of_ble_eq_true rfl, Nat.le_of_ble_eq_true rfl⟩ (rcvT (lvY0 hρ) rfl rfl rfl) (Nat.le_of_ble_eq_true rfl) dX9_agree_20 ⟨by decide, by decide⟩ (fun r u hp hx => ?_)
    obtain ⟨er, rfl⟩ := hp
    rw [er]
    try dsimp only [List.append_nil]
    refine g_aload_n C dX9_agree_23 rfl 0 rfl ?_
    refine g_bipush (v := (40 : Int32)) C dX9_agree_24 (by decide) ?_
    refine g_iload_n C dX9_agree_26 rfl 2 rfl ?_
    refine g_iadd C dX9_agree_27 ?_
    obtain ⟨v4, hv4, h⟩ := bind_of h
    refine g_cVi (n := 1) (exc := []) (exr := []) C [_] _ rfl rfl [] [] rfl rfl rfl rfl (fun _ h => absurd h (by simp)) (fun _ h => absurd h (by simp)) (fun _ h => absurd h (by simp)) (fun sz => k_X9_leftIn l M ρ hρ w _ _ _ hv4 D E sz) rfl gw_1563 gw_9 gw_1560 gw_1562 gs_59 ⟨by decide +kernel, by decide +kernel, by decide +kernel⟩ ⟨rfl, rfl⟩ ⟨Nat.le_of_ble_eq_true rfl, Nat.le_of_ble_eq_true rfl⟩ (rcvT (lvY0 hρ) rfl rfl rfl) (Nat.le_of_ble_eq_true rfl) dX9_agree_28 ⟨by decide, by decide⟩ (fun r u hp hx => ?_)
    obtain ⟨er, rfl⟩ := hp
    rw [er]
    try dsimp only [List.append_nil]
    refine g_icmp_ne (tgt := 74) C dX9_agree_31 (by decide) (fun c31 => ?_) (fun c31 => ?_)
    · replace h := (if_neg c31).symm.trans h
      refine g_lv [0, 1, 2] rfl ?_
      exact lb_X9_agree_74 C hr hz hρ hk9 h
    · replace h := (if_pos c31).symm.trans h
      refine g_aload_n C dX9_agree_34 rfl 0 rfl ?_
      refine g_get (k := 40) (i := 0) (ref := "TradeLineModel") (v := .ref (ρ.2.2.2 (40 + 27) 0)) C rfl (lvY0 hρ) rfl rfl inGX9 27 (by decide) gw_1356 (fun _ h => h) rfl dX9_agree_35 ?_
      refine g_iload_n C dX9_agree_38 rfl 2 rfl ?_
      obtain ⟨g7, h⟩ := of_guard h
      refine q_iald C hρ (j := 27) (N := 80) (List.mem_of_getElem? (i := 23) rfl) rfl rfl g7 dX9_agree_39 ?_
      refine g_aload_n C dX9_agree_40 rfl 0 rfl ?_
      refine g_get (k := 40) (i := 0) (ref := "TradeLineModel") (v := .ref (ρ.2.2.2 (40 + 27) 0)) C rfl (lvY0 hρ) rfl rfl inGX9 27 (by decide) gw_1356 (fun _ h => h) rfl dX9_agree_41 ?_
      refine g_bipush (v := (40 : Int32)) C dX9_agree_44 (by decide) ?_
      refine g_iload_n C dX9_agree_46 rfl 2 rfl ?_
      refine g_iadd C dX9_agree_47 ?_
      obtain ⟨g8, h⟩ := of_guard h
      refine q_iald C hρ (j := 27) (N := 80) (List.mem_of_getElem? (i := 23) rfl) rfl rfl g8 dX9_agree_48 ?_
      refine g_icmp_ne (tgt := 74) C dX9_agree_49 (by decide) (fun c49 => ?_) (fun c49 => ?_)
      · replace h := (if_neg c49).symm.trans h
        refine g_lv [0, 1, 2] rfl ?_
        exact lb_X9_agree_74 C hr hz hρ hk9 h
      · replace h := (if_pos c49).symm.trans h
        refine g_aload_n C dX9_agree_52 rfl 0 rfl ?_
        refine g_get (k := 40) (i := 0) (ref := "TradeLineModel") (v := .ref (ρ.2.2.2 (40 + 28) 0)) C rfl (lvY0 hρ) rfl rfl inGX9 28 (by decide) gw_1357 (fun _ h => h) rfl dX9_agree_53 ?_
        refine g_iload_n C dX9_agree_56 rfl 2 rfl ?_
        refine q_iald C hρ (j := 28) (N := 80) (List.mem_of_getElem? (i := 24) rfl) rfl rfl g7 dX9_agree_57 ?_
        refine g_aload_n C dX9_agree_58 rfl 0 rfl ?_
        refine g_get (k := 40) (i := 0) (ref := "TradeLineModel") (v := .ref (ρ.2.2.2 (40 + 28) 0)) C rfl (lvY0 hρ) rfl rfl inGX9 28 (by decide) gw_1357 (fun _ h => h) rfl dX9_agree_59 ?_
        refine g_bipush (v := (40 : Int32)) C dX9_agree_62 (by decide) ?_
        refine g_iload_n C dX9_agree_64 rfl 2 rfl ?_
        refine g_iadd C dX9_agree_65 ?_
        refine q_iald C hρ (j := 28) (N := 80) (List.mem_of_getElem? (i := 24) rfl) rfl rfl g8 dX9_agree_66 ?_
        refine g_icmp_ne (tgt := 74) C dX9_agree_67 (by decide) (fun c67 => ?_) (fun c67 => ?_)
        · replace h := (if_neg c67).symm.trans h
          refine g_lv [0, 1, 2] rfl ?_
          exact lb_X9_agree_74 C hr hz hρ hk9 h
        · replace h := (if_pos c67).symm.trans h
          refine g_iconst (v := (1 : Int32)) C dX9_agree_70 (by decide) ?_
          refine g_goto (tgt := 75) C dX9_agree_71 (by decide) ?_
          refine g_lv [0, 1, 2] rfl ?_
          exact lb_X9_agree_75 C hr hz hρ hk9 h
noncomputable def l_X9_agree_9  (w : Nat) : Nat → AS → Int32 → Int32 → Option (AS × Int32)
  | 0 => fun _ _ _ => none
  | n + 1 => fun a x1 x2 => b_X9_agree_9  (l_X9_agree_9  w n) w a x1 x2
theorem ll_X9_agree_9 {p : Program} {l : Launch} {e : Env} {s : State} {m : MethodId} {args : Array Value} {below : List Frame} {meth : Method} {c : Code} {D : va_G} {E : Nat → ClassId} {sz : Nat} {M : Nat → Nat → Nat → Int32} {a0 : AS} {ρ : YR} {w : Nat} {r0 : AS × Int32} (C : cx p s m args meth c D E (Aof (mx M a0, ρ) [] s.heap.size) cX9_agree 4 "TradeLineModel") (hr : meth.sig.returnType = (some .boolean)) (hz : s.heap.size = sz) (hρ : rsh ρ)   : ∀ (n : Nat) (a : AS) (x1 x2 : Int32), l_X9_agree_9  w n a x1 x2 = some r0 → G p l e ({ frames := 2, cells := 0, slots := 0, locals := 44 } : Room) s m args below meth c D E (Aof (mx M a0, ρ) [] s.heap.size) 4 (MQ below (cQ D E sz (mx M a0, ρ) [] (pI (fun r u => r = r0.2 ∧ u = ((mx M r0.1, ρ), [])))) args s 0 0 (Aof (mx M a0, ρ) [] s.heap.size)) (mx M a, ρ) [] 0 0 9 [(0, .ref (ρ.2.2.2 40 0)), (1, .int x1), (2, .int x2)] [] := by
  intro n
  induction n with
  | zero => exact fun a x1 x2 h => absurd (show (none : Option (AS × Int32)) = some r0 from h) (by simp)
  | succ n ih => exact fun a x1 x2 h => lb_X9_agree_9 (w := w) C hr hz hρ  ih h
noncomputable def f_X9_agree  (w : Nat) (a : AS) : Option (AS × Int32) := yl (up2 a 0 0 (0 : Int32)) (fun a1 => l_X9_agree_9  w w a1 (1 : Int32) (0 : Int32))
set_option maxHeartbeats 4000000 in
set_option maxRecDepth 100000 in
theorem lb_X9_agree_0 {p : Program} {l : Launch} {e : Env} {s : State} {m : MethodId} {args : Array Value} {below : List Frame} {meth : Method} {c : Code} {D : va_G} {E : Nat → ClassId} {sz : Nat} {M : Nat → Nat → Nat → Int32} {a0 : AS} {ρ : YR} {w : Nat} {r0 : AS × Int32} (C : cx p s m args meth c D E (Aof (mx M a0, ρ) [] s.heap.size) cX9_agree 4 "TradeLineModel") (hr : meth.sig.returnType = (some .boolean)) (hz : s.heap.size = sz) (hρ : rsh ρ) {a : AS}   (h : f_X9_agree  w a  = some r0) : G p l e ({ frames := 2, cells := 0, slots := 0, locals := 44 } : Room) s m args below meth c D E (Aof (mx M a0, ρ) [] s.heap.size) 4 (MQ below (cQ D E sz (mx M a0, ρ) [] (pI (fun r u => r = r0.2 ∧ u = ((mx M r0.1, ρ), [])))) args s 0 0 (Aof (mx M a0, ρ) [] s.heap.size)) (mx M a, ρ) [] 0 0 0 [(0, .ref (ρ.2.2.2 40 0))] [] := by
  unfold f_X9_agree at h
  refine g_aload_n C dX9_agree_0 rfl 0 rfl ?_
  refine g_iconst (v := (0 : Int32)) C dX9_agree_1 (by decide) ?_
  refine q_put C hρ (j := 0) (by decide) gw_1329 rfl rfl (tyX9_ok 0 (by decide)) rfl rfl (by simp [fvs, up1]) dX9_agree_2 (fun a1 ea1 => ?_)
  replace h := yl_of h ea1
  refine g_iconst (v := (1 : Int32)) C dX9_agree_5 (by decide) ?_
  refine g_istore_n (lv' := [(1, .int (1 : Int32)), (0, .ref (ρ.2.2.2 40 0))]) C dX9_agree_6 rfl (by decide) rfl ?_
  refine g_iconst (v := (0 : Int32)) C dX9_agree_7 (by decide) ?_
  refine g_istore_n (lv' := [(2, .int (0 : Int32)), (1, .int (1 : Int32)), (0, .ref (ρ.2.2.2 40 0))]) C dX9_agree_8 rfl (by decide) rfl ?_
  refine g_lv [2, 1, 0] rfl ?_
  exact ll_X9_agree_9 C hr hz hρ  w _ _ _ h
theorem k_X9_agree (l : Launch) (M : Nat → Nat → Nat → Int32) (ρ : YR) (hρ : rsh ρ) (w : Nat) (a : AS) (r0 : AS × Int32) (h : f_X9_agree w a  = some r0) : ∀ D E sz, Met l yX9_agree gwX9_agree ({ frames := 2, cells := 0, slots := 0, locals := 44 } : Room) (cP D E sz (mx M a, ρ) [] [.ref (ρ.2.2.2 40 0)]) (cQ D E sz (mx M a, ρ) [] (pI (fun r u => r = r0.2 ∧ u = ((mx M r0.1, ρ), [])))) (0) (0) (Aof (mx M a, ρ) [] sz) := by
  intro D E sz
  refine g_of (cc := cX9_agree) (maxL := 4) (ret := (some .boolean)) (own := "TradeLineModel") (by decide) rfl rfl (Nat.le_of_ble_eq_true rfl) ?_
  intro p e s m args below meth c C hr hin hz ha hwr
  refine g_lv [0] rfl ?_
  exact lb_X9_agree_0 C hr hz hρ h
