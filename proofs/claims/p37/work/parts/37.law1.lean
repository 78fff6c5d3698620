noncomputable def f_L_rest  (w : Nat) (a : AS) (x3 : Int32)  : Option (Int32) := bif ixB x3 20 then some (((a 9 x3.toNatClampNeg) - (a 10 x3.toNatClampNeg)) - (a 11 x3.toNatClampNeg)) else none
set_option maxHeartbeats 4000000 in
set_option maxRecDepth 100000 in
theorem lb_L_rest_0 {p : Program} {l : Launch} {e : Env} {s : State} {m : MethodId} {args : Array Value} {below : List Frame} {meth : Method} {c : Code} {D : va_G} {E : Nat → ClassId} {sz : Nat} {M : Nat → Nat → Nat → Int32} {a : AS} {ρ : YR} {w : Nat} {r0 : Int32} (C : cx p s m args meth c D E (Aof (mx M a, ρ) [] s.heap.size) cL_rest 4 "TradeLineLaw") (hr : meth.sig.returnType = (some .int)) (hz : s.heap.size = sz) (hρ : rsh ρ) {x3 : Int32}    (h : f_L_rest  w a x3  = some r0) : G p l e ({ frames := 0, cells := 0, slots := 0, locals := 0 } : Room) s m args below meth c D E (Aof (mx M a, ρ) [] s.heap.size) 4 (MQ below (cQ D E sz (mx M a, ρ) [] (pI (fun r u => r = r0 ∧ u = ((mx M a, ρ), [])))) args s 0 0 (Aof (mx M a, ρ) [] s.heap.size)) (mx M a, ρ) [] 0 0 0 [(0, .ref (ρ.2.2.2 (40 + 9) 0)), (1, .ref (ρ.2.2.2 (40 + 10) 0)), (2, .ref (ρ.2.2.2 (40 + 11) 0)), (3, .int x3)] [] := by
  unfold f_L_rest at h
  refine g_aload_n C dL_rest_0 rfl 0 rfl ?_
  refine g_iload_n C dL_rest_1 rfl 3 rfl ?_
  obtain ⟨g1, h⟩ := of_guard h
  refine q_iald C hρ (j := 9) (N := 20) (by decide) rfl g1 dL_rest_2 ?_
  refine g_aload_n C dL_rest_3 rfl 1 rfl ?_
  refine g_iload_n C dL_rest_4 rfl 3 rfl ?_
  refine q_iald C hρ (j := 10) (N := 20) (by decide) rfl g1 dL_rest_5 ?_
  refine g_isub C dL_rest_6 ?_
  refine g_aload_n C dL_rest_7 rfl 2 rfl ?_
  refine g_iload_n C dL_rest_8 rfl 3 rfl ?_
  refine q_iald C hρ (j := 11) (N := 20) (by decide) rfl g1 dL_rest_9 ?_
  refine g_isub C dL_rest_10 ?_
  exact g_iret C hr rfl hz ⟨rfl, rfl, fun _ => rfl, fun _ => rfl⟩ ⟨Option.some.inj h, rfl⟩ (fun j x h => by simp at h) dL_rest_11
theorem k_L_rest (l : Launch) (M : Nat → Nat → Nat → Int32) (ρ : YR) (hρ : rsh ρ) (w : Nat) (a : AS) (x3 : Int32) (r0 : Int32) (h : f_L_rest w a x3 = some r0) : ∀ D E sz, Met l yL_rest gwL_rest ({ frames := 0, cells := 0, slots := 0, locals := 0 } : Room) (cP D E sz (mx M a, ρ) [] [.ref (ρ.2.2.2 (40 + 9) 0), .ref (ρ.2.2.2 (40 + 10) 0), .ref (ρ.2.2.2 (40 + 11) 0), .int x3]) (cQ D E sz (mx M a, ρ) [] (pI (fun r u => r = r0 ∧ u = ((mx M a, ρ), [])))) (0) (0) (Aof (mx M a, ρ) [] sz) := by
  intro D E sz
  refine g_of (cc := cL_rest) (maxL := 4) (ret := (some .int)) (own := "TradeLineLaw") (by decide) rfl rfl (Nat.le_of_ble_eq_true rfl) ?_
  intro p e s m args below meth c C hr hin hz ha hwr
  refine g_lv [0, 1, 2, 3] rfl ?_
  exact lb_L_rest_0 C hr hz hρ h
noncomputable def b_L_best_135 (k26 : Int32 → Int32 → Int32 → Int32 → Option (Int32)) (w : Nat) (a : AS) (x3 : Int32) (x4 : Int32) (x5 : Int32) (x6 : Int32)  : Option (Int32) := yl (x6 + (2 : Int32)) (fun t6 => k26 x3 x4 x5 t6)
set_option maxHeartbeats 4000000 in
set_option maxRecDepth 100000 in
theorem lb_L_best_135 {p : Program} {l : Launch} {e : Env} {s : State} {m : MethodId} {args : Array Value} {below : List Frame} {meth : Method} {c : Code} {D : va_G} {E : Nat → ClassId} {sz : Nat} {M : Nat → Nat → Nat → Int32} {a : AS} {ρ : YR} {w : Nat} {r0 : Int32} (C : cx p s m args meth c D E (Aof (mx M a, ρ) [] s.heap.size) cL_best 8 "TradeLineLaw") (hr : meth.sig.returnType = (some .int)) (hz : s.heap.size = sz) (hρ : rsh ρ) {x3 : Int32} {x4 : Int32} {x5 : Int32} {x6 : Int32}  {k26 : Int32 → Int32 → Int32 → Int32 → Option (Int32)} (hk26 : ∀ (z3 : Int32) (z4 : Int32) (z5 : Int32) (z6 : Int32), k26 z3 z4 z5 z6 = some r0 → G p l e ({ frames := 0, cells := 0, slots := 0, locals := 0 } : Room) s m args below meth c D E (Aof (mx M a, ρ) [] s.heap.size) 8 (MQ below (cQ D E sz (mx M a, ρ) [] (pI (fun r u => r = r0 ∧ u = ((mx M a, ρ), [])))) args s 0 0 (Aof (mx M a, ρ) [] s.heap.size)) (mx M a, ρ) [] 0 0 26 [(0, .ref (ρ.2.2.2 (40 + 8) 0)), (2, .ref (ρ.2.2.2 (40 + 14) 0)), (3, .int z3), (4, .int z4), (5, .int z5), (6, .int z6)] []) (h : b_L_best_135 k26 w a x3 x4 x5 x6  = some r0) : G p l e ({ frames := 0, cells := 0, slots := 0, locals := 0 } : Room) s m args below meth c D E (Aof (mx M a, ρ) [] s.heap.size) 8 (MQ below (cQ D E sz (mx M a, ρ) [] (pI (fun r u => r = r0 ∧ u = ((mx M a, ρ), [])))) args s 0 0 (Aof (mx M a, ρ) [] s.heap.size)) (mx M a, ρ) [] 0 0 135 [(0, .ref (ρ.2.2.2 (40 + 8) 0)), (2, .ref (ρ.2.2.2 (40 + 14) 0)), (3, .int x3), (4, .int x4), (5, .int x5), (6, .int x6)] [] := by
  unfold b_L_best_135 at h
  obtain ⟨t6, et6⟩ : ∃ y : Int32, x6 + (2 : Int32) = y := ⟨_, rfl⟩
  replace h := yl_of h et6
  refine g_iinc (v := t6) (lv' := [(6, .int t6), (0, .ref (ρ.2.2.2 (40 + 8) 0)), (2, .ref (ρ.2.2.2 (40 + 14) 0)), (3, .int x3), (4, .int x4), (5, .int x5)]) C dL_best_135 5 rfl (by rw [← et6]; rfl) (by decide) rfl ?_
  refine g_goto (tgt := 26) C dL_best_138 (by decide) ?_
  refine g_lv [1, 2, 3, 4, 5, 0] rfl ?_
  exact hk26 _ _ _ _ h
noncomputable def b_L_best_131 (k26 : Int32 → Int32 → Int32 → Int32 → Option (Int32)) (w : Nat) (a : AS) (x3 : Int32) (x5 : Int32) (x6 : Int32)  : Option (Int32) := b_L_best_135 k26 w a x3 x6 x5 x6
set_option maxHeartbeats 4000000 in
set_option maxRecDepth 100000 in
theorem lb_L_best_131 {p : Program} {l : Launch} {e : Env} {s : State} {m : MethodId} {args : Array Value} {below : List Frame} {meth : Method} {c : Code} {D : va_G} {E : Nat → ClassId} {sz : Nat} {M : Nat → Nat → Nat → Int32} {a : AS} {ρ : YR} {w : Nat} {r0 : Int32} (C : cx p s m args meth c D E (Aof (mx M a, ρ) [] s.heap.size) cL_best 8 "TradeLineLaw") (hr : meth.sig.returnType = (some .int)) (hz : s.heap.size = sz) (hρ : rsh ρ) {x3 : Int32} {x5 : Int32} {x6 : Int32}  {k26 : Int32 → Int32 → Int32 → Int32 → Option (Int32)} (hk26 : ∀ (z3 : Int32) (z4 : Int32) (z5 : Int32) (z6 : Int32), k26 z3 z4 z5 z6 = some r0 → G p l e ({ frames := 0, cells := 0, slots := 0, locals := 0 } : Room) s m args below meth c D E (Aof (mx M a, ρ) [] s.heap.size) 8 (MQ below (cQ D E sz (mx M a, ρ) [] (pI (fun r u => r = r0 ∧ u = ((mx M a, ρ), [])))) args s 0 0 (Aof (mx M a, ρ) [] s.heap.size)) (mx M a, ρ) [] 0 0 26 [(0, .ref (ρ.2.2.2 (40 + 8) 0)), (2, .ref (ρ.2.2.2 (40 + 14) 0)), (3, .int z3), (4, .int z4), (5, .int z5), (6, .int z6)] []) (h : b_L_best_131 k26 w a x3 x5 x6  = some r0) : G p l e ({ frames := 0, cells := 0, slots := 0, locals := 0 } : Room) s m args below meth c D E (Aof (mx M a, ρ) [] s.heap.size) 8 (MQ below (cQ D E sz (mx M a, ρ) [] (pI (fun r u => r = r0 ∧ u = ((mx M a, ρ), [])))) args s 0 0 (Aof (mx M a, ρ) [] s.heap.size)) (mx M a, ρ) [] 0 0 131 [(0, .ref (ρ.2.2.2 (40 + 8) 0)), (2, .ref (ρ.2.2.2 (40 + 14) 0)), (3, .int x3), (5, .int x5), (6, .int x6)] [] := by
  unfold b_L_best_131 at h
  refine g_iload C dL_best_131 4 rfl ?_
  refine g_istore (lv' := [(4, .int x6), (0, .ref (ρ.2.2.2 (40 + 8) 0)), (2, .ref (ρ.2.2.2 (40 + 14) 0)), (3, .int x3), (5, .int x5), (6, .int x6)]) C dL_best_133 (by decide) rfl ?_
  refine g_lv [1, 2, 3, 0, 4, 5] rfl ?_
  exact lb_L_best_135 C hr hz hρ hk26 h
noncomputable def b_L_best_26 (k26 : Int32 → Int32 → Int32 → Int32 → Option (Int32)) (w : Nat) (a : AS) (x3 : Int32) (x4 : Int32) (x5 : Int32) (x6 : Int32)  : Option (Int32) := (if (6 : Int32) ≤ x6 then (some x4) else (bif ixB x6 6 then yl (((a 14 x6.toNatClampNeg) &&& (255 : Int32))) (fun t5 => (if t5 = (0 : Int32) then (b_L_best_135 k26 w a x3 x4 x5 x6) else (bif ixB ((10 : Int32) + x3) 20 then (if (x5 * ((a 14 x6.toNatClampNeg) >>> ((8 : Int32) &&& 31))) ≤ (x5 * (a 8 ((10 : Int32) + x3).toNatClampNeg)) then ((if x4 < (0 : Int32) then (b_L_best_131 k26 w a x3 x5 x6) else (bif ixB x4 6 then (if (x5 * ((a 14 x6.toNatClampNeg) >>> ((8 : Int32) &&& 31))) < (x5 * ((a 14 x4.toNatClampNeg) >>> ((8 : Int32) &&& 31))) then (b_L_best_131 k26 w a x3 x5 x6) else ((if ((a 14 x6.toNatClampNeg) >>> ((8 : Int32) &&& 31)) = ((a 14 x4.toNatClampNeg) >>> ((8 : Int32) &&& 31)) then ((if t5 ≤ ((a 14 x4.toNatClampNeg) &&& (255 : Int32)) then (b_L_best_135 k26 w a x3 x4 x5 x6) else (b_L_best_131 k26 w a x3 x5 x6))) else (b_L_best_135 k26 w a x3 x4 x5 x6)))) else none))) else (b_L_best_135 k26 w a x3 x4 x5 x6)) else none))) else none))
set_option maxHeartbeats 4000000 in
set_option maxRecDepth 100000 in
theorem lb_L_best_26 {p : Program} {l : Launch} {e : Env} {s : State} {m : MethodId} {args : Array Value} {below : List Frame} {meth : Method} {c : Code} {D : va_G} {E : Nat → ClassId} {sz : Nat} {M : Nat → Nat → Nat → Int32} {a : AS} {ρ : YR} {w : Nat} {r0 : Int32} (C : cx p s m args meth c D E (Aof (mx M a, ρ) [] s.heap.size) cL_best 8 "TradeLineLaw") (hr : meth.sig.returnType = (some .int)) (hz : s.heap.size = sz) (hρ : rsh ρ) {x3 : Int32} {x4 : Int32} {x5 : Int32} {x6 : Int32}  {k26 : Int32 → Int32 → Int32 → Int32 → Option (Int32)} (hk26 : ∀ (z3 : Int32) (z4 : Int32) (z5 : Int32) (z6 : Int32), k26 z3 z4 z5 z6 = some r0 → G p l e ({ frames := 0, cells := 0, slots := 0, locals := 0 } : Room) s m args below meth c D E (Aof (mx M a, ρ) [] s.heap.size) 8 (MQ below (cQ D E sz (mx M a, ρ) [] (pI (fun r u => r = r0 ∧ u = ((mx M a, ρ), [])))) args s 0 0 (Aof (mx M a, ρ) [] s.heap.size)) (mx M a, ρ) [] 0 0 26 [(0, .ref (ρ.2.2.2 (40 + 8) 0)), (2, .ref (ρ.2.2.2 (40 + 14) 0)), (3, .int z3), (4, .int z4), (5, .int z5), (6, .int z6)] []) (h : b_L_best_26 k26 w a x3 x4 x5 x6  = some r0) : G p l e ({ frames := 0, cells := 0, slots := 0, locals := 0 } : Room) s m args below meth c D E (Aof (mx M a, ρ) [] s.heap.size) 8 (MQ below (cQ D E sz (mx M a, ρ) [] (pI (fun r u => r = r0 ∧ u = ((mx M a, ρ), [])))) args s 0 0 (Aof (mx M a, ρ) [] s.heap.size)) (mx M a, ρ) [] 0 0 26 [(0, .ref (ρ.2.2.2 (40 + 8) 0)), (2, .ref (ρ.2.2.2 (40 + 14) 0)), (3, .int x3), (4, .int x4), (5, .int x5), (6, .int x6)] [] := by
  unfold b_L_best_26 at h
  refine g_iload C dL_best_26 5 rfl ?_
  refine g_bipush (v := (6 : Int32)) C dL_best_28 (by decide) ?_
  refine g_icmp_ge (tgt := 141) C dL_best_30 (by decide) (fun c30 => ?_) (fun c30 => ?_)
  · replace h := (if_pos c30).symm.trans h
    refine g_iload C dL_best_141 3 rfl ?_
    exact g_iret C hr rfl hz ⟨rfl, rfl, fun _ => rfl, fun _ => rfl⟩ ⟨Option.some.inj h, rfl⟩ (fun j x h => by simp at h) dL_best_143
  · replace h := (if_neg c30).symm.trans h
    refine g_aload_n C dL_best_33 rfl 1 rfl ?_
    refine g_iload C dL_best_34 5 rfl ?_
    obtain ⟨g4, h⟩ := of_guard h
    refine q_iald C hρ (j := 14) (N := 6) (by decide) rfl g4 dL_best_36 ?_
    refine g_sipush (v := (255 : Int32)) C dL_best_37 (by decide) ?_
    refine g_iand C dL_best_40 ?_
    refine q_topi (fun t5 et5 => ?_)
    replace h := yl_of h et5
    refine g_istore (lv' := [(7, .int t5), (0, .ref (ρ.2.2.2 (40 + 8) 0)), (2, .ref (ρ.2.2.2 (40 + 14) 0)), (3, .int x3), (4, .int x4), (5, .int x5), (6, .int x6)]) C dL_best_41 (by decide) rfl ?_
    refine g_iload C dL_best_43 0 rfl ?_
    refine g_if_eq (tgt := 135) C dL_best_45 (by decide) (fun c45 => ?_) (fun c45 => ?_)
    · replace h := (if_pos c45).symm.trans h
      refine g_lv [1, 2, 3, 4, 5, 6] rfl ?_
      exact lb_L_best_135 C hr hz hρ hk26 h
    · replace h := (if_neg c45).symm.trans h
      refine g_iload C dL_best_48 5 rfl ?_
      refine g_aload_n C dL_best_50 rfl 2 rfl ?_
      refine g_iload C dL_best_51 6 rfl ?_
      refine q_iald C hρ (j := 14) (N := 6) (by decide) rfl g4 dL_best_53 ?_
      refine g_bipush (v := (8 : Int32)) C dL_best_54 (by decide) ?_
      refine g_ishr C dL_best_56 ?_
      refine g_imul C dL_best_57 ?_
      refine g_iload C dL_best_58 5 rfl ?_
      refine g_aload_n C dL_best_60 rfl 1 rfl ?_
      refine g_bipush (v := (10 : Int32)) C dL_best_61 (by decide) ?_
      refine g_iload_n C dL_best_63 rfl 3 rfl ?_
      refine g_iadd C dL_best_64 ?_
      obtain ⟨g7, h⟩ := of_guard h
      refine q_iald C hρ (j := 8) (N := 20) (by decide) rfl g7 dL_best_65 ?_
      refine g_imul C dL_best_66 ?_
      refine g_icmp_le (tgt := 73) C dL_best_67 (by decide) (fun c67 => ?_) (fun c67 => ?_)
      · replace h := (if_pos c67).symm.trans h
        refine g_iload C dL_best_73 4 rfl ?_
        refine g_if_lt (tgt := 131) C dL_best_75 (by decide) (fun c75 => ?_) (fun c75 => ?_)
        · replace h := (if_pos c75).symm.trans h
          refine g_lv [1, 2, 3, 5, 6] rfl ?_
          exact lb_L_best_131 C hr hz hρ hk26 h
        · replace h := (if_neg c75).symm.trans h
          refine g_iload C dL_best_78 5 rfl ?_
          refine g_aload_n C dL_best_80 rfl 2 rfl ?_
          refine g_iload C dL_best_81 6 rfl ?_
          refine q_iald C hρ (j := 14) (N := 6) (by decide) rfl g4 dL_best_83 ?_
          refine g_bipush (v := (8 : Int32)) C dL_best_84 (by decide) ?_
          refine g_ishr C dL_best_86 ?_
          refine g_imul C dL_best_87 ?_
          refine g_iload C dL_best_88 5 rfl ?_
          refine g_aload_n C dL_best_90 rfl 2 rfl ?_
          refine g_iload C dL_best_91 4 rfl ?_
          obtain ⟨g8, h⟩ := of_guard h
          refine q_iald C hρ (j := 14) (N := 6) (by decide) rfl g8 dL_best_93 ?_
          refine g_bipush (v := (8 : Int32)) C dL_best_94 (by decide) ?_
          refine g_ishr C dL_best_96 ?_
          refine g_imul C dL_best_97 ?_
          refine g_icmp_lt (tgt := 131) C dL_best_98 (by decide) (fun c98 => ?_) (fun c98 => ?_)
          · replace h := (if_pos c98).symm.trans h
            refine g_lv [1, 2, 3, 5, 6] rfl ?_
            exact lb_L_best_131 C hr hz hρ hk26 h
          · replace h := (if_neg c98).symm.trans h
            refine g_aload_n C dL_best_101 rfl 2 rfl ?_
            refine g_iload C dL_best_102 6 rfl ?_
            refine q_iald C hρ (j := 14) (N := 6) (by decide) rfl g4 dL_best_104 ?_
            refine g_bipush (v := (8 : Int32)) C dL_best_105 (by decide) ?_
            refine g_ishr C dL_best_107 ?_
            refine g_aload_n C dL_best_108 rfl 2 rfl ?_
            refine g_iload C dL_best_109 4 rfl ?_
            refine q_iald C hρ (j := 14) (N := 6) (by decide) rfl g8 dL_best_111 ?_
            refine g_bipush (v := (8 : Int32)) C dL_best_112 (by decide) ?_
            refine g_ishr C dL_best_114 ?_
            refine g_icmp_ne (tgt := 135) C dL_best_115 (by decide) (fun c115 => ?_) (fun c115 => ?_)
            · replace h := (if_neg c115).symm.trans h
              refine g_lv [1, 2, 3, 4, 5, 6] rfl ?_
              exact lb_L_best_135 C hr hz hρ hk26 h
            · replace h := (if_pos c115).symm.trans h
              refine g_iload C dL_best_118 0 rfl ?_
              refine g_aload_n C dL_best_120 rfl 2 rfl ?_
              refine g_iload C dL_best_121 4 rfl ?_
              refine q_iald C hρ (j := 14) (N := 6) (by decide) rfl g8 dL_best_123 ?_
              refine g_sipush (v := (255 : Int32)) C dL_best_124 (by decide) ?_
              refine g_iand C dL_best_127 ?_
              refine g_icmp_le (tgt := 135) C dL_best_128 (by decide) (fun c128 => ?_) (fun c128 => ?_)
              · replace h := (if_pos c128).symm.trans h
                refine g_lv [1, 2, 3, 4, 5, 6] rfl ?_
                exact lb_L_best_135 C hr hz hρ hk26 h
              · replace h := (if_neg c128).symm.trans h
                refine g_lv [1, 2, 3, 5, 6] rfl ?_
                exact lb_L_best_131 C hr hz hρ hk26 h
      · replace h := (if_neg c67).symm.trans h
        refine g_goto (tgt := 135) C dL_best_70 (by decide) ?_
        refine g_lv [1, 2, 3, 4, 5, 6] rfl ?_
        exact lb_L_best_135 C hr hz hρ hk26 h
noncomputable def l_L_best_26  (w : Nat) (a : AS) : Nat → Int32 → Int32 → Int32 → Int32 → Option (Int32)
  | 0 => fun _ _ _ _ => none
  | n + 1 => fun x3 x4 x5 x6 => b_L_best_26  (l_L_best_26  w a n) w a x3 x4 x5 x6
theorem ll_L_best_26 {p : Program} {l : Launch} {e : Env} {s : State} {m : MethodId} {args : Array Value} {below : List Frame} {meth : Method} {c : Code} {D : va_G} {E : Nat → ClassId} {sz : Nat} {M : Nat → Nat → Nat → Int32} {a : AS} {ρ : YR} {w : Nat} {r0 : Int32} (C : cx p s m args meth c D E (Aof (mx M a, ρ) [] s.heap.size) cL_best 8 "TradeLineLaw") (hr : meth.sig.returnType = (some .int)) (hz : s.heap.size = sz) (hρ : rsh ρ)   : ∀ (n : Nat) (x3 : Int32) (x4 : Int32) (x5 : Int32) (x6 : Int32), l_L_best_26  w a n x3 x4 x5 x6 = some r0 → G p l e ({ frames := 0, cells := 0, slots := 0, locals := 0 } : Room) s m args below meth c D E (Aof (mx M a, ρ) [] s.heap.size) 8 (MQ below (cQ D E sz (mx M a, ρ) [] (pI (fun r u => r = r0 ∧ u = ((mx M a, ρ), [])))) args s 0 0 (Aof (mx M a, ρ) [] s.heap.size)) (mx M a, ρ) [] 0 0 26 [(0, .ref (ρ.2.2.2 (40 + 8) 0)), (2, .ref (ρ.2.2.2 (40 + 14) 0)), (3, .int x3), (4, .int x4), (5, .int x5), (6, .int x6)] [] := by
  intro n
  induction n with
  | zero => exact fun x3 x4 x5 x6 h => absurd (show (none : Option (Int32)) = some r0 from h) (by simp)
  | succ n ih => exact fun x3 x4 x5 x6 h => lb_L_best_26 (w := w) C hr hz hρ  ih h
noncomputable def b_L_best_17  (w : Nat) (a : AS) (x3 : Int32) (x4 : Int32) (s0 : Int32) : Option (Int32) := bif ixB x3 10 then yl (((a 12 x3.toNatClampNeg) &&& (1 : Int32))) (fun t3 => l_L_best_26  w a w x3 x4 s0 t3) else none
set_option maxHeartbeats 4000000 in
set_option maxRecDepth 100000 in
theorem lb_L_best_17 {p : Program} {l : Launch} {e : Env} {s : State} {m : MethodId} {args : Array Value} {below : List Frame} {meth : Method} {c : Code} {D : va_G} {E : Nat → ClassId} {sz : Nat} {M : Nat → Nat → Nat → Int32} {a : AS} {ρ : YR} {w : Nat} {r0 : Int32} (C : cx p s m args meth c D E (Aof (mx M a, ρ) [] s.heap.size) cL_best 8 "TradeLineLaw") (hr : meth.sig.returnType = (some .int)) (hz : s.heap.size = sz) (hρ : rsh ρ) {x3 : Int32} {x4 : Int32} {s0 : Int32}   (h : b_L_best_17  w a x3 x4 s0 = some r0) : G p l e ({ frames := 0, cells := 0, slots := 0, locals := 0 } : Room) s m args below meth c D E (Aof (mx M a, ρ) [] s.heap.size) 8 (MQ below (cQ D E sz (mx M a, ρ) [] (pI (fun r u => r = r0 ∧ u = ((mx M a, ρ), [])))) args s 0 0 (Aof (mx M a, ρ) [] s.heap.size)) (mx M a, ρ) [] 0 0 17 [(0, .ref (ρ.2.2.2 (40 + 8) 0)), (1, .ref (ρ.2.2.2 (40 + 12) 0)), (2, .ref (ρ.2.2.2 (40 + 14) 0)), (3, .int x3), (4, .int x4)] [.int s0] := by
  unfold b_L_best_17 at h
  refine g_istore (lv' := [(5, .int s0), (0, .ref (ρ.2.2.2 (40 + 8) 0)), (1, .ref (ρ.2.2.2 (40 + 12) 0)), (2, .ref (ρ.2.2.2 (40 + 14) 0)), (3, .int x3), (4, .int x4)]) C dL_best_17 (by decide) rfl ?_
  refine g_aload_n C dL_best_19 rfl 2 rfl ?_
  refine g_iload_n C dL_best_20 rfl 4 rfl ?_
  obtain ⟨g2, h⟩ := of_guard h
  refine q_iald C hρ (j := 12) (N := 10) (by decide) rfl g2 dL_best_21 ?_
  refine g_iconst (v := (1 : Int32)) C dL_best_22 (by decide) ?_
  refine g_iand C dL_best_23 ?_
  refine q_topi (fun t3 et3 => ?_)
  replace h := yl_of h et3
  refine g_istore (lv' := [(6, .int t3), (5, .int s0), (0, .ref (ρ.2.2.2 (40 + 8) 0)), (1, .ref (ρ.2.2.2 (40 + 12) 0)), (2, .ref (ρ.2.2.2 (40 + 14) 0)), (3, .int x3), (4, .int x4)]) C dL_best_24 (by decide) rfl ?_
  refine g_lv [2, 4, 5, 6, 1, 0] rfl ?_
  exact ll_L_best_26 C hr hz hρ  w _ _ _ _ h
noncomputable def f_L_best  (w : Nat) (a : AS) (x3 : Int32)  : Option (Int32) := bif ixB x3 10 then (if ((a 12 x3.toNatClampNeg) &&& (1 : Int32)) = (1 : Int32) then (b_L_best_17  w a x3 (-1 : Int32) (-1 : Int32)) else (b_L_best_17  w a x3 (-1 : Int32) (1 : Int32))) else none
set_option maxHeartbeats 4000000 in
set_option maxRecDepth 100000 in
theorem lb_L_best_0 {p : Program} {l : Launch} {e : Env} {s : State} {m : MethodId} {args : Array Value} {below : List Frame} {meth : Method} {c : Code} {D : va_G} {E : Nat → ClassId} {sz : Nat} {M : Nat → Nat → Nat → Int32} {a : AS} {ρ : YR} {w : Nat} {r0 : Int32} (C : cx p s m args meth c D E (Aof (mx M a, ρ) [] s.heap.size) cL_best 8 "TradeLineLaw") (hr : meth.sig.returnType = (some .int)) (hz : s.heap.size = sz) (hρ : rsh ρ) {x3 : Int32}    (h : f_L_best  w a x3  = some r0) : G p l e ({ frames := 0, cells := 0, slots := 0, locals := 0 } : Room) s m args below meth c D E (Aof (mx M a, ρ) [] s.heap.size) 8 (MQ below (cQ D E sz (mx M a, ρ) [] (pI (fun r u => r = r0 ∧ u = ((mx M a, ρ), [])))) args s 0 0 (Aof (mx M a, ρ) [] s.heap.size)) (mx M a, ρ) [] 0 0 0 [(0, .ref (ρ.2.2.2 (40 + 8) 0)), (1, .ref (ρ.2.2.2 (40 + 12) 0)), (2, .ref (ρ.2.2.2 (40 + 14) 0)), (3, .int x3)] [] := by
  unfold f_L_best at h
  refine g_iconst (v := (-1 : Int32)) C dL_best_0 (by decide) ?_
  refine g_istore (lv' := [(4, .int (-1 : Int32)), (0, .ref (ρ.2.2.2 (40 + 8) 0)), (1, .ref (ρ.2.2.2 (40 + 12) 0)), (2, .ref (ρ.2.2.2 (40 + 14) 0)), (3, .int x3)]) C dL_best_1 (by decide) rfl ?_
  refine g_aload_n C dL_best_3 rfl 2 rfl ?_
  refine g_iload_n C dL_best_4 rfl 4 rfl ?_
  obtain ⟨g1, h⟩ := of_guard h
  refine q_iald C hρ (j := 12) (N := 10) (by decide) rfl g1 dL_best_5 ?_
  refine g_iconst (v := (1 : Int32)) C dL_best_6 (by decide) ?_
  refine g_iand C dL_best_7 ?_
  refine g_iconst (v := (1 : Int32)) C dL_best_8 (by decide) ?_
  refine g_icmp_ne (tgt := 16) C dL_best_9 (by decide) (fun c9 => ?_) (fun c9 => ?_)
  · replace h := (if_neg c9).symm.trans h
    refine g_iconst (v := (1 : Int32)) C dL_best_16 (by decide) ?_
    refine g_lv [1, 2, 3, 4, 0] rfl ?_
    exact lb_L_best_17 C hr hz hρ  h
  · replace h := (if_pos c9).symm.trans h
    refine g_iconst (v := (-1 : Int32)) C dL_best_12 (by decide) ?_
    refine g_goto (tgt := 17) C dL_best_13 (by decide) ?_
    refine g_lv [1, 2, 3, 4, 0] rfl ?_
    exact lb_L_best_17 C hr hz hρ  h
theorem k_L_best (l : Launch) (M : Nat → Nat → Nat → Int32) (ρ : YR) (hρ : rsh ρ) (w : Nat) (a : AS) (x3 : Int32) (r0 : Int32) (h : f_L_best w a x3 = some r0) : ∀ D E sz, Met l yL_best gwL_best ({ frames := 0, cells := 0, slots := 0, locals := 0 } : Room) (cP D E sz (mx M a, ρ) [] [.ref (ρ.2.2.2 (40 + 8) 0), .ref (ρ.2.2.2 (40 + 12) 0), .ref (ρ.2.2.2 (40 + 14) 0), .int x3]) (cQ D E sz (mx M a, ρ) [] (pI (fun r u => r = r0 ∧ u = ((mx M a, ρ), [])))) (0) (0) (Aof (mx M a, ρ) [] sz) := by
  intro D E sz
  refine g_of (cc := cL_best) (maxL := 8) (ret := (some .int)) (own := "TradeLineLaw") (by decide) rfl rfl (Nat.le_of_ble_eq_true rfl) ?_
  intro p e s m args below meth c C hr hin hz ha hwr
  refine g_lv [0, 1, 2, 3] rfl ?_
  exact lb_L_best_0 C hr hz hρ h
noncomputable def b_L_route_203  (w : Nat) (a : AS) (x12 : Int32) (x13 : Int32)  : Option (AS × Int32) := bif ixB (19 : Int32) 22 then (if (a 1 (19 : Int32).toNatClampNeg) ≤ x13 then (some (a, (0 : Int32))) else ((f_L_send w a (1 : Int32) (8 : Int32) (1 : Int32) x12 x13 ((a 1 (19 : Int32).toNatClampNeg) - x13)).bind (fun v5 => some (v5.1, (0 : Int32))))) else none
set_option maxHeartbeats 4000000 in
set_option maxRecDepth 100000 in
theorem lb_L_route_203 {p : Program} {l : Launch} {e : Env} {s : State} {m : MethodId} {args : Array Value} {below : List Frame} {meth : Method} {c : Code} {D : va_G} {E : Nat → ClassId} {sz : Nat} {M : Nat → Nat → Nat → Int32} {a0 : AS} {ρ : YR} {w : Nat} {r0 : AS × Int32} (C : cx p s m args meth c D E (Aof (mx M a0, ρ) [] s.heap.size) cL_route 18 "TradeLineLaw") (hr : meth.sig.returnType = none) (hz : s.heap.size = sz) (hρ : rsh ρ) {a : AS} {x12 : Int32} {x13 : Int32}    (h : b_L_route_203  w a x12 x13  = some r0) : G p l e ({ frames := 3, cells := 0, slots := 0, locals := 78 } : Room) s m args below meth c D E (Aof (mx M a0, ρ) [] s.heap.size) 18 (MQ below (cQ D E sz (mx M a0, ρ) [] (pV (fun u => u = ((mx M r0.1, ρ), [])))) args s 0 0 (Aof (mx M a0, ρ) [] s.heap.size)) (mx M a, ρ) [] 0 0 203 [(0, .ref (ρ.2.2.2 (40 + 1) 0)), (1, .ref (ρ.2.2.2 (40 + 2) 0)), (2, .ref (ρ.2.2.2 (40 + 3) 0)), (3, .ref (ρ.2.2.2 (40 + 4) 0)), (4, .ref (ρ.2.2.2 (40 + 5) 0)), (12, .int x12), (13, .int x13)] [] := by
  unfold b_L_route_203 at h
  refine g_aload_n C dL_route_203 rfl 0 rfl ?_
  refine g_bipush (v := (19 : Int32)) C dL_route_204 (by decide) ?_
  obtain ⟨g4, h⟩ := of_guard h
  refine q_iald C hρ (j := 1) (N := 22) (by decide) rfl g4 dL_route_206 ?_
  refine g_iload C dL_route_207 6 rfl ?_
  refine g_icmp_le (tgt := 236) C dL_route_209 (by decide) (fun c209 => ?_) (fun c209 => ?_)
  · replace h := (if_pos c209).symm.trans h
    obtain rfl := Option.some.inj h
    exact g_vret C hr hz ⟨rfl, rfl, fun _ => rfl, fun _ => rfl⟩ rfl (fun j x h => by simp at h) dL_route_236
  · replace h := (if_neg c209).symm.trans h
    refine g_aload_n C dL_route_212 rfl 0 rfl ?_
    refine g_aload_n C dL_route_213 rfl 1 rfl ?_
    refine g_aload_n C dL_route_214 rfl 2 rfl ?_
    refine g_aload_n C dL_route_215 rfl 3 rfl ?_
    refine g_aload C dL_route_216 4 rfl ?_
    refine g_iconst (v := (1 : Int32)) C dL_route_218 (by decide) ?_
    refine g_bipush (v := (8 : Int32)) C dL_route_219 (by decide) ?_
    refine g_iconst (v := (1 : Int32)) C dL_route_221 (by decide) ?_
    refine g_iload C dL_route_222 5 rfl ?_
    refine g_iload C dL_route_224 6 rfl ?_
    refine g_aload_n C dL_route_226 rfl 0 rfl ?_
    refine g_bipush (v := (19 : Int32)) C dL_route_227 (by decide) ?_
    refine q_iald C hρ (j := 1) (N := 22) (by decide) rfl g4 dL_route_229 ?_
    refine g_iload C dL_route_230 6 rfl ?_
    refine g_isub C dL_route_232 ?_
    obtain ⟨v5, hv5, h⟩ := bind_of h
    refine g_cSv (n := 11) (exc := []) (exr := []) C [_, _, _, _, _, _, _, _, _, _, _] _ rfl rfl [] [] rfl rfl rfl rfl (fun _ h => absurd h (by simp)) (fun _ h => absurd h (by simp)) (fun _ h => absurd h (by simp)) (fun sz => k_L_send l M ρ hρ w _ _ _ _ _ _ _ _ hv5 D E sz) rfl gw_458 gw_0 gw_456 gw_457 ⟨by decide +kernel, by decide +kernel, by decide +kernel⟩ ⟨rfl, rfl⟩ ⟨Nat.le_of_ble_eq_true rfl, Nat.le_of_ble_eq_true rfl⟩ (Nat.le_of_ble_eq_true rfl) dL_route_233 ⟨by decide, by decide⟩ (fun u hp hx => ?_)
    obtain rfl := hp
    try dsimp only [List.append_nil]
    obtain rfl := Option.some.inj h
    exact g_vret C hr hz ⟨rfl, rfl, fun _ => rfl, fun _ => rfl⟩ rfl (fun j x h => by simp at h) dL_route_236
noncomputable def b_L_route_94 (k19 : AS → Int32 → Int32 → Int32 → Option (AS × Int32)) (w : Nat) (a : AS) (x12 : Int32) (x13 : Int32) (x14 : Int32) (s0 : Int32) : Option (AS × Int32) := bif ixB x14 6 then yl ((Int32.toInt64 ((a 14 x14.toNatClampNeg) >>> ((8 : Int32) &&& 31)))) (fun t11 => bif ixB (19 : Int32) 22 then bif ixB (20 : Int32) 22 then bif ixB (a 1 (19 : Int32).toNatClampNeg) 60 then yl (wLg a 13 (a 1 (19 : Int32).toNatClampNeg).toNatClampNeg ((((((Int32.toInt64 x12) + ((16 : Int64) * (Int32.toInt64 (x14 / (2 : Int32))))) + ((64 : Int64) * (Int32.toInt64 (a 1 (20 : Int32).toNatClampNeg)))) + ((Int32.toInt64 s0) <<< (Int32.toInt64 (14 : Int32) &&& 63))) + (t11 <<< (Int32.toInt64 (21 : Int32) &&& 63))) + (t11 <<< (Int32.toInt64 (28 : Int32) &&& 63)))) (fun a15 => yl (up2 a15 1 (19 : Int32).toNatClampNeg ((a15 1 (19 : Int32).toNatClampNeg) + (1 : Int32))) (fun a16 => bif ixB ((10 : Int32) + x12) 20 then yl (up2 a16 10 ((10 : Int32) + x12).toNatClampNeg ((a16 10 ((10 : Int32) + x12).toNatClampNeg) + s0)) (fun a18 => yl (up2 a18 14 x14.toNatClampNeg ((a18 14 x14.toNatClampNeg) - s0)) (fun a19 => (f_L_best w a19 x12).bind (fun v20 => k19 a19 x12 x13 v20))) else none)) else none else none else none) else none
set_option maxHeartbeats 4000000 in
set_option maxRecDepth 100000 in
theorem lb_L_route_94 {p : Program} {l : Launch} {e : Env} {s : State} {m : MethodId} {args : Array Value} {below : List Frame} {meth : Method} {c : Code} {D : va_G} {E : Nat → ClassId} {sz : Nat} {M : Nat → Nat → Nat → Int32} {a0 : AS} {ρ : YR} {w : Nat} {r0 : AS × Int32} (C : cx p s m args meth c D E (Aof (mx M a0, ρ) [] s.heap.size) cL_route 18 "TradeLineLaw") (hr : meth.sig.returnType = none) (hz : s.heap.size = sz) (hρ : rsh ρ) {a : AS} {x12 : Int32} {x13 : Int32} {x14 : Int32} {s0 : Int32} {k19 : AS → Int32 → Int32 → Int32 → Option (AS × Int32)} (hk19 : ∀ (a1 : AS) (z12 : Int32) (z13 : Int32) (z14 : Int32), k19 a1 z12 z13 z14 = some r0 → G p l e ({ frames := 3, cells := 0, slots := 0, locals := 78 } : Room) s m args below meth c D E (Aof (mx M a0, ρ) [] s.heap.size) 18 (MQ below (cQ D E sz (mx M a0, ρ) [] (pV (fun u => u = ((mx M r0.1, ρ), [])))) args s 0 0 (Aof (mx M a0, ρ) [] s.heap.size)) (mx M a1, ρ) [] 0 0 19 [(0, .ref (ρ.2.2.2 (40 + 1) 0)), (1, .ref (ρ.2.2.2 (40 + 2) 0)), (2, .ref (ρ.2.2.2 (40 + 3) 0)), (3, .ref (ρ.2.2.2 (40 + 4) 0)), (4, .ref (ρ.2.2.2 (40 + 5) 0)), (5, .ref (ρ.2.2.2 (40 + 8) 0)), (6, .ref (ρ.2.2.2 (40 + 9) 0)), (7, .ref (ρ.2.2.2 (40 + 10) 0)), (8, .ref (ρ.2.2.2 (40 + 11) 0)), (9, .ref (ρ.2.2.2 (40 + 12) 0)), (10, .ref (ρ.2.2.2 (40 + 13) 0)), (11, .ref (ρ.2.2.2 (40 + 14) 0)), (12, .int z12), (13, .int z13), (14, .int z14)] []) (h : b_L_route_94 k19 w a x12 x13 x14 s0 = some r0) : G p l e ({ frames := 3, cells := 0, slots := 0, locals := 78 } : Room) s m args below meth c D E (Aof (mx M a0, ρ) [] s.heap.size) 18 (MQ below (cQ D E sz (mx M a0, ρ) [] (pV (fun u => u = ((mx M r0.1, ρ), [])))) args s 0 0 (Aof (mx M a0, ρ) [] s.heap.size)) (mx M a, ρ) [] 0 0 94 [(0, .ref (ρ.2.2.2 (40 + 1) 0)), (1, .ref (ρ.2.2.2 (40 + 2) 0)), (2, .ref (ρ.2.2.2 (40 + 3) 0)), (3, .ref (ρ.2.2.2 (40 + 4) 0)), (4, .ref (ρ.2.2.2 (40 + 5) 0)), (5, .ref (ρ.2.2.2 (40 + 8) 0)), (6, .ref (ρ.2.2.2 (40 + 9) 0)), (7, .ref (ρ.2.2.2 (40 + 10) 0)), (8, .ref (ρ.2.2.2 (40 + 11) 0)), (9, .ref (ρ.2.2.2 (40 + 12) 0)), (10, .ref (ρ.2.2.2 (40 + 13) 0)), (11, .ref (ρ.2.2.2 (40 + 14) 0)), (12, .int x12), (13, .int x13), (14, .int x14)] [.int s0] := by
  unfold b_L_route_94 at h
  refine g_istore (lv' := [(15, .int s0), (0, .ref (ρ.2.2.2 (40 + 1) 0)), (1, .ref (ρ.2.2.2 (40 + 2) 0)), (2, .ref (ρ.2.2.2 (40 + 3) 0)), (3, .ref (ρ.2.2.2 (40 + 4) 0)), (4, .ref (ρ.2.2.2 (40 + 5) 0)), (5, .ref (ρ.2.2.2 (40 + 8) 0)), (6, .ref (ρ.2.2.2 (40 + 9) 0)), (7, .ref (ρ.2.2.2 (40 + 10) 0)), (8, .ref (ρ.2.2.2 (40 + 11) 0)), (9, .ref (ρ.2.2.2 (40 + 12) 0)), (10, .ref (ρ.2.2.2 (40 + 13) 0)), (11, .ref (ρ.2.2.2 (40 + 14) 0)), (12, .int x12), (13, .int x13), (14, .int x14)]) C dL_route_94 (by decide) rfl ?_
  refine g_aload C dL_route_96 12 rfl ?_
  refine g_iload C dL_route_98 15 rfl ?_
  obtain ⟨g10, h⟩ := of_guard h
  refine q_iald C hρ (j := 14) (N := 6) (by decide) rfl g10 dL_route_100 ?_
  refine g_bipush (v := (8 : Int32)) C dL_route_101 (by decide) ?_
  refine g_ishr C dL_route_103 ?_
  refine g_i2l C dL_route_104 rfl ?_
  refine q_topl (fun t11 et11 => ?_)
  replace h := yl_of h et11
  refine g_lstore (lv' := [(16, .long t11), (15, .int s0), (0, .ref (ρ.2.2.2 (40 + 1) 0)), (1, .ref (ρ.2.2.2 (40 + 2) 0)), (2, .ref (ρ.2.2.2 (40 + 3) 0)), (3, .ref (ρ.2.2.2 (40 + 4) 0)), (4, .ref (ρ.2.2.2 (40 + 5) 0)), (5, .ref (ρ.2.2.2 (40 + 8) 0)), (6, .ref (ρ.2.2.2 (40 + 9) 0)), (7, .ref (ρ.2.2.2 (40 + 10) 0)), (8, .ref (ρ.2.2.2 (40 + 11) 0)), (9, .ref (ρ.2.2.2 (40 + 12) 0)), (10, .ref (ρ.2.2.2 (40 + 13) 0)), (11, .ref (ρ.2.2.2 (40 + 14) 0)), (12, .int x12), (13, .int x13), (14, .int x14)]) C dL_route_105 (by decide) rfl ?_
  refine g_aload C dL_route_107 12 rfl ?_
  refine g_aload_n C dL_route_109 rfl 2 rfl ?_
  refine g_bipush (v := (19 : Int32)) C dL_route_110 (by decide) ?_
  obtain ⟨g12, h⟩ := of_guard h
  refine q_iald C hρ (j := 1) (N := 22) (by decide) rfl g12 dL_route_112 ?_
  refine g_iload C dL_route_113 14 rfl ?_
  refine g_i2l C dL_route_115 rfl ?_
  refine g_ldc2 (v := (16 : Int64)) C gw_1007 dL_route_116 ?_
  refine g_iload C dL_route_119 16 rfl ?_
  refine g_iconst (v := (2 : Int32)) C dL_route_121 (by decide) ?_
  refine g_idiv C dL_route_122 (by decide) ?_
  refine g_i2l C dL_route_123 rfl ?_
  refine g_lmul C dL_route_124 ?_
  refine g_ladd C dL_route_125 ?_
  refine g_ldc2 (v := (64 : Int64)) C gw_1036 dL_route_126 ?_
  refine g_aload_n C dL_route_129 rfl 2 rfl ?_
  refine g_bipush (v := (20 : Int32)) C dL_route_130 (by decide) ?_
  obtain ⟨g13, h⟩ := of_guard h
  refine q_iald C hρ (j := 1) (N := 22) (by decide) rfl g13 dL_route_132 ?_
  refine g_i2l C dL_route_133 rfl ?_
  refine g_lmul C dL_route_134 ?_
  refine g_ladd C dL_route_135 ?_
  refine g_iload C dL_route_136 1 rfl ?_
  refine g_i2l C dL_route_138 rfl ?_
  refine g_bipush (v := (14 : Int32)) C dL_route_139 (by decide) ?_
  refine g_lshl C dL_route_141 ?_
  refine g_ladd C dL_route_142 ?_
  refine g_lload C dL_route_143 0 rfl ?_
  refine g_bipush (v := (21 : Int32)) C dL_route_145 (by decide) ?_
  refine g_lshl C dL_route_147 ?_
  refine g_ladd C dL_route_148 ?_
  refine g_lload C dL_route_149 0 rfl ?_
  refine g_bipush (v := (28 : Int32)) C dL_route_151 (by decide) ?_
  refine g_lshl C dL_route_153 ?_
  refine g_ladd C dL_route_154 ?_
  obtain ⟨g14, h⟩ := of_guard h
  refine q_last C hρ (j := 13) (N := 60) (by decide) rfl g14 dL_route_155 (fun a15 ea15 => ?_)
  replace h := yl_of h ea15
  refine g_aload_n C dL_route_156 rfl 2 rfl ?_
  refine g_bipush (v := (19 : Int32)) C dL_route_157 (by decide) ?_
  refine g_dup2 C dL_route_159 rfl rfl ?_
  refine q_iald C hρ (j := 1) (N := 22) (by decide) rfl g12 dL_route_160 ?_
  refine g_iconst (v := (1 : Int32)) C dL_route_161 (by decide) ?_
  refine g_iadd C dL_route_162 ?_
  refine q_iast C hρ (j := 1) (N := 22) (by decide) rfl g12 dL_route_163 (fun a16 ea16 => ?_)
  replace h := yl_of h ea16
  refine g_aload C dL_route_164 9 rfl ?_
  refine g_bipush (v := (10 : Int32)) C dL_route_166 (by decide) ?_
  refine g_iload C dL_route_168 14 rfl ?_
  refine g_iadd C dL_route_170 ?_
  refine g_dup2 C dL_route_171 rfl rfl ?_
  obtain ⟨g17, h⟩ := of_guard h
  refine q_iald C hρ (j := 10) (N := 20) (by decide) rfl g17 dL_route_172 ?_
  refine g_iload C dL_route_173 1 rfl ?_
  refine g_iadd C dL_route_175 ?_
  refine q_iast C hρ (j := 10) (N := 20) (by decide) rfl g17 dL_route_176 (fun a18 ea18 => ?_)
  replace h := yl_of h ea18
  refine g_aload C dL_route_177 13 rfl ?_
  refine g_iload C dL_route_179 16 rfl ?_
  refine g_dup2 C dL_route_181 rfl rfl ?_
  refine q_iald C hρ (j := 14) (N := 6) (by decide) rfl g10 dL_route_182 ?_
  refine g_iload C dL_route_183 1 rfl ?_
  refine g_isub C dL_route_185 ?_
  refine q_iast C hρ (j := 14) (N := 6) (by decide) rfl g10 dL_route_186 (fun a19 ea19 => ?_)
  replace h := yl_of h ea19
  refine g_aload C dL_route_187 7 rfl ?_
  refine g_aload C dL_route_189 11 rfl ?_
  refine g_aload C dL_route_191 13 rfl ?_
  refine g_iload C dL_route_193 14 rfl ?_
  obtain ⟨v20, hv20, h⟩ := bind_of h
  refine g_cSi (n := 4) (exc := []) (exr := []) C [_, _, _, _] _ rfl rfl [] [] rfl rfl rfl rfl (fun _ h => absurd h (by simp)) (fun _ h => absurd h (by simp)) (fun _ h => absurd h (by simp)) (fun sz => k_L_best l M ρ hρ w _ _ _ hv20 D E sz) rfl gw_1032 gw_0 gw_1030 gw_1031 ⟨by decide +kernel, by decide +kernel, by decide +kernel⟩ ⟨rfl, rfl⟩ ⟨Nat.le_of_ble_eq_true rfl, Nat.le_of_ble_eq_true rfl⟩ (Nat.le_of_ble_eq_true rfl) dL_route_195 ⟨by decide, by decide⟩ (fun r u hp hx => ?_)
  obtain ⟨er, rfl⟩ := hp
  rw [er]
  try dsimp only [List.append_nil]
  refine g_istore (lv' := [(14, .int v20), (16, .long t11), (15, .int s0), (0, .ref (ρ.2.2.2 (40 + 1) 0)), (1, .ref (ρ.2.2.2 (40 + 2) 0)), (2, .ref (ρ.2.2.2 (40 + 3) 0)), (3, .ref (ρ.2.2.2 (40 + 4) 0)), (4, .ref (ρ.2.2.2 (40 + 5) 0)), (5, .ref (ρ.2.2.2 (40 + 8) 0)), (6, .ref (ρ.2.2.2 (40 + 9) 0)), (7, .ref (ρ.2.2.2 (40 + 10) 0)), (8, .ref (ρ.2.2.2 (40 + 11) 0)), (9, .ref (ρ.2.2.2 (40 + 12) 0)), (10, .ref (ρ.2.2.2 (40 + 13) 0)), (11, .ref (ρ.2.2.2 (40 + 14) 0)), (12, .int x12), (13, .int x13)]) C dL_route_198 (by decide) rfl ?_
  refine g_goto (tgt := 19) C dL_route_200 (by decide) ?_
  refine g_lv [3, 4, 5, 6, 7, 8, 9, 10, 11, 12, 13, 14, 15, 16, 0] rfl ?_
  exact hk19 _ _ _ _ h
noncomputable def b_L_route_19 (k19 : AS → Int32 → Int32 → Int32 → Option (AS × Int32)) (w : Nat) (a : AS) (x12 : Int32) (x13 : Int32) (x14 : Int32)  : Option (AS × Int32) := (if x14 < (0 : Int32) then (b_L_route_203  w a x12 x13) else ((f_L_rest w a ((10 : Int32) + x12)).bind (fun v6 => (if v6 ≤ (0 : Int32) then (b_L_route_203  w a x12 x13) else (bif ixB (19 : Int32) 22 then (if (60 : Int32) ≤ (a 1 (19 : Int32).toNatClampNeg) then (b_L_route_203  w a x12 x13) else ((f_L_rest w a ((10 : Int32) + x12)).bind (fun v8 => bif ixB x14 6 then (if ((a 14 x14.toNatClampNeg) &&& (255 : Int32)) ≤ v8 then (b_L_route_94 k19 w a x12 x13 x14 ((a 14 x14.toNatClampNeg) &&& (255 : Int32))) else (b_L_route_94 k19 w a x12 x13 x14 v8)) else none))) else none)))))
set_option maxHeartbeats 4000000 in
set_option maxRecDepth 100000 in
theorem lb_L_route_19 {p : Program} {l : Launch} {e : Env} {s : State} {m : MethodId} {args : Array Value} {below : List Frame} {meth : Method} {c : Code} {D : va_G} {E : Nat → ClassId} {sz : Nat} {M : Nat → Nat → Nat → Int32} {a0 : AS} {ρ : YR} {w : Nat} {r0 : AS × Int32} (C : cx p s m args meth c D E (Aof (mx M a0, ρ) [] s.heap.size) cL_route 18 "TradeLineLaw") (hr : meth.sig.returnType = none) (hz : s.heap.size = sz) (hρ : rsh ρ) {a : AS} {x12 : Int32} {x13 : Int32} {x14 : Int32}  {k19 : AS → Int32 → Int32 → Int32 → Option (AS × Int32)} (hk19 : ∀ (a1 : AS) (z12 : Int32) (z13 : Int32) (z14 : Int32), k19 a1 z12 z13 z14 = some r0 → G p l e ({ frames := 3, cells := 0, slots := 0, locals := 78 } : Room) s m args below meth c D E (Aof (mx M a0, ρ) [] s.heap.size) 18 (MQ below (cQ D E sz (mx M a0, ρ) [] (pV (fun u => u = ((mx M r0.1, ρ), [])))) args s 0 0 (Aof (mx M a0, ρ) [] s.heap.size)) (mx M a1, ρ) [] 0 0 19 [(0, .ref (ρ.2.2.2 (40 + 1) 0)), (1, .ref (ρ.2.2.2 (40 + 2) 0)), (2, .ref (ρ.2.2.2 (40 + 3) 0)), (3, .ref (ρ.2.2.2 (40 + 4) 0)), (4, .ref (ρ.2.2.2 (40 + 5) 0)), (5, .ref (ρ.2.2.2 (40 + 8) 0)), (6, .ref (ρ.2.2.2 (40 + 9) 0)), (7, .ref (ρ.2.2.2 (40 + 10) 0)), (8, .ref (ρ.2.2.2 (40 + 11) 0)), (9, .ref (ρ.2.2.2 (40 + 12) 0)), (10, .ref (ρ.2.2.2 (40 + 13) 0)), (11, .ref (ρ.2.2.2 (40 + 14) 0)), (12, .int z12), (13, .int z13), (14, .int z14)] []) (h : b_L_route_19 k19 w a x12 x13 x14  = some r0) : G p l e ({ frames := 3, cells := 0, slots := 0, locals := 78 } : Room) s m args below meth c D E (Aof (mx M a0, ρ) [] s.heap.size) 18 (MQ below (cQ D E sz (mx M a0, ρ) [] (pV (fun u => u = ((mx M r0.1, ρ), [])))) args s 0 0 (Aof (mx M a0, ρ) [] s.heap.size)) (mx M a, ρ) [] 0 0 19 [(0, .ref (ρ.2.2.2 (40 + 1) 0)), (1, .ref (ρ.2.2.2 (40 + 2) 0)), (2, .ref (ρ.2.2.2 (40 + 3) 0)), (3, .ref (ρ.2.2.2 (40 + 4) 0)), (4, .ref (ρ.2.2.2 (40 + 5) 0)), (5, .ref (ρ.2.2.2 (40 + 8) 0)), (6, .ref (ρ.2.2.2 (40 + 9) 0)), (7, .ref (ρ.2.2.2 (40 + 10) 0)), (8, .ref (ρ.2.2.2 (40 + 11) 0)), (9, .ref (ρ.2.2.2 (40 + 12) 0)), (10, .ref (ρ.2.2.2 (40 + 13) 0)), (11, .ref (ρ.2.2.2 (40 + 14) 0)), (12, .int x12), (13, .int x13), (14, .int x14)] [] := by
  unfold b_L_route_19 at h
  refine g_iload C dL_route_19 14 rfl ?_
  refine g_if_lt (tgt := 203) C dL_route_21 (by decide) (fun c21 => ?_) (fun c21 => ?_)
  · replace h := (if_pos c21).symm.trans h
    refine g_lv [0, 1, 2, 3, 4, 12, 13] rfl ?_
    exact lb_L_route_203 C hr hz hρ  h
  · replace h := (if_neg c21).symm.trans h
    refine g_aload C dL_route_24 6 rfl ?_
    refine g_aload C dL_route_26 7 rfl ?_
    refine g_aload C dL_route_28 8 rfl ?_
    refine g_bipush (v := (10 : Int32)) C dL_route_30 (by decide) ?_
    refine g_iload C dL_route_32 12 rfl ?_
    refine g_iadd C dL_route_34 ?_
    obtain ⟨v6, hv6, h⟩ := bind_of h
    refine g_cSi (n := 4) (exc := []) (exr := []) C [_, _, _, _] _ rfl rfl [] [] rfl rfl rfl rfl (fun _ h => absurd h (by simp)) (fun _ h => absurd h (by simp)) (fun _ h => absurd h (by simp)) (fun sz => k_L_rest l M ρ hρ w _ _ _ hv6 D E sz) rfl gw_1035 gw_0 gw_1033 gw_1034 ⟨by decide +kernel, by decide +kernel, by decide +kernel⟩ ⟨rfl, rfl⟩ ⟨Nat.le_of_ble_eq_true rfl, Nat.le_of_ble_eq_true rfl⟩ (Nat.le_of_ble_eq_true rfl) dL_route_35 ⟨by decide, by decide⟩ (fun r u hp hx => ?_)
    obtain ⟨er, rfl⟩ := hp
    rw [er]
    try dsimp only [List.append_nil]
    refine g_if_le (tgt := 203) C dL_route_38 (by decide) (fun c38 => ?_) (fun c38 => ?_)
    · replace h := (if_pos c38).symm.trans h
      refine g_lv [0, 1, 2, 3, 4, 12, 13] rfl ?_
      exact lb_L_route_203 C hr hz hρ  h
    · replace h := (if_neg c38).symm.trans h
      refine g_aload_n C dL_route_41 rfl 0 rfl ?_
      refine g_bipush (v := (19 : Int32)) C dL_route_42 (by decide) ?_
      obtain ⟨g7, h⟩ := of_guard h
      refine q_iald C hρ (j := 1) (N := 22) (by decide) rfl g7 dL_route_44 ?_
      refine g_bipush (v := (60 : Int32)) C dL_route_45 (by decide) ?_
      refine g_icmp_ge (tgt := 203) C dL_route_47 (by decide) (fun c47 => ?_) (fun c47 => ?_)
      · replace h := (if_pos c47).symm.trans h
        refine g_lv [0, 1, 2, 3, 4, 12, 13] rfl ?_
        exact lb_L_route_203 C hr hz hρ  h
      · replace h := (if_neg c47).symm.trans h
        refine g_aload C dL_route_50 6 rfl ?_
        refine g_aload C dL_route_52 7 rfl ?_
        refine g_aload C dL_route_54 8 rfl ?_
        refine g_bipush (v := (10 : Int32)) C dL_route_56 (by decide) ?_
        refine g_iload C dL_route_58 12 rfl ?_
        refine g_iadd C dL_route_60 ?_
        obtain ⟨v8, hv8, h⟩ := bind_of h
        refine g_cSi (n := 4) (exc := []) (exr := []) C [_, _, _, _] _ rfl rfl [] [] rfl rfl rfl rfl (fun _ h => absurd h (by simp)) (fun _ h => absurd h (by simp)) (fun _ h => absurd h (by simp)) (fun sz => k_L_rest l M ρ hρ w _ _ _ hv8 D E sz) rfl gw_1035 gw_0 gw_1033 gw_1034 ⟨by decide +kernel, by decide +kernel, by decide +kernel⟩ ⟨rfl, rfl⟩ ⟨Nat.le_of_ble_eq_true rfl, Nat.le_of_ble_eq_true rfl⟩ (Nat.le_of_ble_eq_true rfl) dL_route_61 ⟨by decide, by decide⟩ (fun r u hp hx => ?_)
        obtain ⟨er, rfl⟩ := hp
        rw [er]
        try dsimp only [List.append_nil]
        refine g_istore (lv' := [(15, .int v8), (0, .ref (ρ.2.2.2 (40 + 1) 0)), (1, .ref (ρ.2.2.2 (40 + 2) 0)), (2, .ref (ρ.2.2.2 (40 + 3) 0)), (3, .ref (ρ.2.2.2 (40 + 4) 0)), (4, .ref (ρ.2.2.2 (40 + 5) 0)), (5, .ref (ρ.2.2.2 (40 + 8) 0)), (6, .ref (ρ.2.2.2 (40 + 9) 0)), (7, .ref (ρ.2.2.2 (40 + 10) 0)), (8, .ref (ρ.2.2.2 (40 + 11) 0)), (9, .ref (ρ.2.2.2 (40 + 12) 0)), (10, .ref (ρ.2.2.2 (40 + 13) 0)), (11, .ref (ρ.2.2.2 (40 + 14) 0)), (12, .int x12), (13, .int x13), (14, .int x14)]) C dL_route_64 (by decide) rfl ?_
        refine g_iload C dL_route_66 0 rfl ?_
        refine g_aload C dL_route_68 12 rfl ?_
        refine g_iload C dL_route_70 15 rfl ?_
        obtain ⟨g9, h⟩ := of_guard h
        refine q_iald C hρ (j := 14) (N := 6) (by decide) rfl g9 dL_route_72 ?_
        refine g_sipush (v := (255 : Int32)) C dL_route_73 (by decide) ?_
        refine g_iand C dL_route_76 ?_
        refine g_icmp_ge (tgt := 85) C dL_route_77 (by decide) (fun c77 => ?_) (fun c77 => ?_)
        · replace h := (if_pos c77).symm.trans h
          refine g_aload C dL_route_85 12 rfl ?_
          refine g_iload C dL_route_87 15 rfl ?_
          refine q_iald C hρ (j := 14) (N := 6) (by decide) rfl g9 dL_route_89 ?_
          refine g_sipush (v := (255 : Int32)) C dL_route_90 (by decide) ?_
          refine g_iand C dL_route_93 ?_
          refine g_lv [1, 2, 3, 4, 5, 6, 7, 8, 9, 10, 11, 12, 13, 14, 15] rfl ?_
          exact lb_L_route_94 C hr hz hρ hk19 h
        · replace h := (if_neg c77).symm.trans h
          refine g_iload C dL_route_80 0 rfl ?_
          refine g_goto (tgt := 94) C dL_route_82 (by decide) ?_
          refine g_lv [1, 2, 3, 4, 5, 6, 7, 8, 9, 10, 11, 12, 13, 14, 15] rfl ?_
          exact lb_L_route_94 C hr hz hρ hk19 h
noncomputable def l_L_route_19  (w : Nat) : Nat → AS → Int32 → Int32 → Int32 → Option (AS × Int32)
  | 0 => fun _ _ _ _ => none
  | n + 1 => fun a x12 x13 x14 => b_L_route_19  (l_L_route_19  w n) w a x12 x13 x14
theorem ll_L_route_19 {p : Program} {l : Launch} {e : Env} {s : State} {m : MethodId} {args : Array Value} {below : List Frame} {meth : Method} {c : Code} {D : va_G} {E : Nat → ClassId} {sz : Nat} {M : Nat → Nat → Nat → Int32} {a0 : AS} {ρ : YR} {w : Nat} {r0 : AS × Int32} (C : cx p s m args meth c D E (Aof (mx M a0, ρ) [] s.heap.size) cL_route 18 "TradeLineLaw") (hr : meth.sig.returnType = none) (hz : s.heap.size = sz) (hρ : rsh ρ)   : ∀ (n : Nat) (a : AS) (x12 : Int32) (x13 : Int32) (x14 : Int32), l_L_route_19  w n a x12 x13 x14 = some r0 → G p l e ({ frames := 3, cells := 0, slots := 0, locals := 78 } : Room) s m args below meth c D E (Aof (mx M a0, ρ) [] s.heap.size) 18 (MQ below (cQ D E sz (mx M a0, ρ) [] (pV (fun u => u = ((mx M r0.1, ρ), [])))) args s 0 0 (Aof (mx M a0, ρ) [] s.heap.size)) (mx M a, ρ) [] 0 0 19 [(0, .ref (ρ.2.2.2 (40 + 1) 0)), (1, .ref (ρ.2.2.2 (40 + 2) 0)), (2, .ref (ρ.2.2.2 (40 + 3) 0)), (3, .ref (ρ.2.2.2 (40 + 4) 0)), (4, .ref (ρ.2.2.2 (40 + 5) 0)), (5, .ref (ρ.2.2.2 (40 + 8) 0)), (6, .ref (ρ.2.2.2 (40 + 9) 0)), (7, .ref (ρ.2.2.2 (40 + 10) 0)), (8, .ref (ρ.2.2.2 (40 + 11) 0)), (9, .ref (ρ.2.2.2 (40 + 12) 0)), (10, .ref (ρ.2.2.2 (40 + 13) 0)), (11, .ref (ρ.2.2.2 (40 + 14) 0)), (12, .int x12), (13, .int x13), (14, .int x14)] [] := by
  intro n
  induction n with
  | zero => exact fun a x12 x13 x14 h => absurd (show (none : Option (AS × Int32)) = some r0 from h) (by simp)
  | succ n ih => exact fun a x12 x13 x14 h => lb_L_route_19 (w := w) C hr hz hρ  ih h
noncomputable def f_L_route  (w : Nat) (a : AS) (x12 : Int32)  : Option (AS × Int32) := bif ixB (19 : Int32) 22 then yl ((a 1 (19 : Int32).toNatClampNeg)) (fun t2 => (f_L_best w a x12).bind (fun v3 => l_L_route_19  w w a x12 t2 v3)) else none
set_option maxHeartbeats 4000000 in
set_option maxRecDepth 100000 in
theorem lb_L_route_0 {p : Program} {l : Launch} {e : Env} {s : State} {m : MethodId} {args : Array Value} {below : List Frame} {meth : Method} {c : Code} {D : va_G} {E : Nat → ClassId} {sz : Nat} {M : Nat → Nat → Nat → Int32} {a0 : AS} {ρ : YR} {w : Nat} {r0 : AS × Int32} (C : cx p s m args meth c D E (Aof (mx M a0, ρ) [] s.heap.size) cL_route 18 "TradeLineLaw") (hr : meth.sig.returnType = none) (hz : s.heap.size = sz) (hρ : rsh ρ) {a : AS} {x12 : Int32}    (h : f_L_route  w a x12  = some r0) : G p l e ({ frames := 3, cells := 0, slots := 0, locals := 78 } : Room) s m args below meth c D E (Aof (mx M a0, ρ) [] s.heap.size) 18 (MQ below (cQ D E sz (mx M a0, ρ) [] (pV (fun u => u = ((mx M r0.1, ρ), [])))) args s 0 0 (Aof (mx M a0, ρ) [] s.heap.size)) (mx M a, ρ) [] 0 0 0 [(0, .ref (ρ.2.2.2 (40 + 1) 0)), (1, .ref (ρ.2.2.2 (40 + 2) 0)), (2, .ref (ρ.2.2.2 (40 + 3) 0)), (3, .ref (ρ.2.2.2 (40 + 4) 0)), (4, .ref (ρ.2.2.2 (40 + 5) 0)), (5, .ref (ρ.2.2.2 (40 + 8) 0)), (6, .ref (ρ.2.2.2 (40 + 9) 0)), (7, .ref (ρ.2.2.2 (40 + 10) 0)), (8, .ref (ρ.2.2.2 (40 + 11) 0)), (9, .ref (ρ.2.2.2 (40 + 12) 0)), (10, .ref (ρ.2.2.2 (40 + 13) 0)), (11, .ref (ρ.2.2.2 (40 + 14) 0)), (12, .int x12)] [] := by
  unfold f_L_route at h
  refine g_aload_n C dL_route_0 rfl 0 rfl ?_
  refine g_bipush (v := (19 : Int32)) C dL_route_1 (by decide) ?_
  obtain ⟨g1, h⟩ := of_guard h
  refine q_iald C hρ (j := 1) (N := 22) (by decide) rfl g1 dL_route_3 ?_
  refine q_topi (fun t2 et2 => ?_)
  replace h := yl_of h et2
  refine g_istore (lv' := [(13, .int t2), (0, .ref (ρ.2.2.2 (40 + 1) 0)), (1, .ref (ρ.2.2.2 (40 + 2) 0)), (2, .ref (ρ.2.2.2 (40 + 3) 0)), (3, .ref (ρ.2.2.2 (40 + 4) 0)), (4, .ref (ρ.2.2.2 (40 + 5) 0)), (5, .ref (ρ.2.2.2 (40 + 8) 0)), (6, .ref (ρ.2.2.2 (40 + 9) 0)), (7, .ref (ρ.2.2.2 (40 + 10) 0)), (8, .ref (ρ.2.2.2 (40 + 11) 0)), (9, .ref (ρ.2.2.2 (40 + 12) 0)), (10, .ref (ρ.2.2.2 (40 + 13) 0)), (11, .ref (ρ.2.2.2 (40 + 14) 0)), (12, .int x12)]) C dL_route_4 (by decide) rfl ?_
  refine g_aload C dL_route_6 6 rfl ?_
  refine g_aload C dL_route_8 10 rfl ?_
  refine g_aload C dL_route_10 12 rfl ?_
  refine g_iload C dL_route_12 13 rfl ?_
  obtain ⟨v3, hv3, h⟩ := bind_of h
  refine g_cSi (n := 4) (exc := []) (exr := []) C [_, _, _, _] _ rfl rfl [] [] rfl rfl rfl rfl (fun _ h => absurd h (by simp)) (fun _ h => absurd h (by simp)) (fun _ h => absurd h (by simp)) (fun sz => k_L_best l M ρ hρ w _ _ _ hv3 D E sz) rfl gw_1032 gw_0 gw_1030 gw_1031 ⟨by decide +kernel, by decide +kernel, by decide +kernel⟩ ⟨rfl, rfl⟩ ⟨Nat.le_of_ble_eq_true rfl, Nat.le_of_ble_eq_true rfl⟩ (Nat.le_of_ble_eq_true rfl) dL_route_14 ⟨by decide, by decide⟩ (fun r u hp hx => ?_)
  obtain ⟨er, rfl⟩ := hp
  rw [er]
  try dsimp only [List.append_nil]
  refine g_istore (lv' := [(14, .int v3), (13, .int t2), (0, .ref (ρ.2.2.2 (40 + 1) 0)), (1, .ref (ρ.2.2.2 (40 + 2) 0)), (2, .ref (ρ.2.2.2 (40 + 3) 0)), (3, .ref (ρ.2.2.2 (40 + 4) 0)), (4, .ref (ρ.2.2.2 (40 + 5) 0)), (5, .ref (ρ.2.2.2 (40 + 8) 0)), (6, .ref (ρ.2.2.2 (40 + 9) 0)), (7, .ref (ρ.2.2.2 (40 + 10) 0)), (8, .ref (ρ.2.2.2 (40 + 11) 0)), (9, .ref (ρ.2.2.2 (40 + 12) 0)), (10, .ref (ρ.2.2.2 (40 + 13) 0)), (11, .ref (ρ.2.2.2 (40 + 14) 0)), (12, .int x12)]) C dL_route_17 (by decide) rfl ?_
  refine g_lv [2, 3, 4, 5, 6, 7, 8, 9, 10, 11, 12, 13, 14, 1, 0] rfl ?_
  exact ll_L_route_19 C hr hz hρ  w _ _ _ _ h
theorem k_L_route (l : Launch) (M : Nat → Nat → Nat → Int32) (ρ : YR) (hρ : rsh ρ) (w : Nat) (a : AS) (x12 : Int32) (r0 : AS × Int32) (h : f_L_route w a x12 = some r0) : ∀ D E sz, Met l yL_route gwL_route ({ frames := 3, cells := 0, slots := 0, locals := 78 } : Room) (cP D E sz (mx M a, ρ) [] [.ref (ρ.2.2.2 (40 + 1) 0), .ref (ρ.2.2.2 (40 + 2) 0), .ref (ρ.2.2.2 (40 + 3) 0), .ref (ρ.2.2.2 (40 + 4) 0), .ref (ρ.2.2.2 (40 + 5) 0), .ref (ρ.2.2.2 (40 + 8) 0), .ref (ρ.2.2.2 (40 + 9) 0), .ref (ρ.2.2.2 (40 + 10) 0), .ref (ρ.2.2.2 (40 + 11) 0), .ref (ρ.2.2.2 (40 + 12) 0), .ref (ρ.2.2.2 (40 + 13) 0), .ref (ρ.2.2.2 (40 + 14) 0), .int x12]) (cQ D E sz (mx M a, ρ) [] (pV (fun u => u = ((mx M r0.1, ρ), [])))) (0) (0) (Aof (mx M a, ρ) [] sz) := by
  intro D E sz
  refine g_of (cc := cL_route) (maxL := 18) (ret := none) (own := "TradeLineLaw") (by decide) rfl rfl (Nat.le_of_ble_eq_true rfl) ?_
  intro p e s m args below meth c C hr hin hz ha hwr
  refine g_lv [0, 1, 2, 3, 4, 5, 6, 7, 8, 9, 10, 11, 12] rfl ?_
  exact lb_L_route_0 C hr hz hρ h
noncomputable def b_L_house_207  (w : Nat) (a : AS) (x15 : Int32)  : Option (AS × Int32) := (f_L_send w a (1 : Int32) (8 : Int32) (4 : Int32) x15 (0 : Int32) (0 : Int32)).bind (fun v6 => some (v6.1, (0 : Int32)))
set_option maxHeartbeats 4000000 in
set_option maxRecDepth 100000 in
theorem lb_L_house_207 {p : Program} {l : Launch} {e : Env} {s : State} {m : MethodId} {args : Array Value} {below : List Frame} {meth : Method} {c : Code} {D : va_G} {E : Nat → ClassId} {sz : Nat} {M : Nat → Nat → Nat → Int32} {a0 : AS} {ρ : YR} {w : Nat} {r0 : AS × Int32} (C : cx p s m args meth c D E (Aof (mx M a0, ρ) [] s.heap.size) cL_house 18 "TradeLineLaw") (hr : meth.sig.returnType = none) (hz : s.heap.size = sz) (hρ : rsh ρ) {a : AS} {x15 : Int32}    (h : b_L_house_207  w a x15  = some r0) : G p l e ({ frames := 4, cells := 0, slots := 0, locals := 115 } : Room) s m args below meth c D E (Aof (mx M a0, ρ) [] s.heap.size) 18 (MQ below (cQ D E sz (mx M a0, ρ) [] (pV (fun u => u = ((mx M r0.1, ρ), [])))) args s 0 0 (Aof (mx M a0, ρ) [] s.heap.size)) (mx M a, ρ) [] 0 0 207 [(0, .ref (ρ.2.2.2 (40 + 1) 0)), (1, .ref (ρ.2.2.2 (40 + 2) 0)), (2, .ref (ρ.2.2.2 (40 + 3) 0)), (3, .ref (ρ.2.2.2 (40 + 4) 0)), (4, .ref (ρ.2.2.2 (40 + 5) 0)), (15, .int x15)] [] := by
  unfold b_L_house_207 at h
  refine g_aload_n C dL_house_207 rfl 0 rfl ?_
  refine g_aload_n C dL_house_208 rfl 1 rfl ?_
  refine g_aload_n C dL_house_209 rfl 2 rfl ?_
  refine g_aload_n C dL_house_210 rfl 3 rfl ?_
  refine g_aload C dL_house_211 4 rfl ?_
  refine g_iconst (v := (1 : Int32)) C dL_house_213 (by decide) ?_
  refine g_bipush (v := (8 : Int32)) C dL_house_214 (by decide) ?_
  refine g_iconst (v := (4 : Int32)) C dL_house_216 (by decide) ?_
  refine g_iload C dL_house_217 5 rfl ?_
  refine g_iconst (v := (0 : Int32)) C dL_house_219 (by decide) ?_
  refine g_iconst (v := (0 : Int32)) C dL_house_220 (by decide) ?_
  obtain ⟨v6, hv6, h⟩ := bind_of h
  refine g_cSv (n := 11) (exc := []) (exr := []) C [_, _, _, _, _, _, _, _, _, _, _] _ rfl rfl [] [] rfl rfl rfl rfl (fun _ h => absurd h (by simp)) (fun _ h => absurd h (by simp)) (fun _ h => absurd h (by simp)) (fun sz => k_L_send l M ρ hρ w _ _ _ _ _ _ _ _ hv6 D E sz) rfl gw_458 gw_0 gw_456 gw_457 ⟨by decide +kernel, by decide +kernel, by decide +kernel⟩ ⟨rfl, rfl⟩ ⟨Nat.le_of_ble_eq_true rfl, Nat.le_of_ble_eq_true rfl⟩ (Nat.le_of_ble_eq_true rfl) dL_house_221 ⟨by decide, by decide⟩ (fun u hp hx => ?_)
  obtain rfl := hp
  try dsimp only [List.append_nil]
  obtain rfl := Option.some.inj h
  exact g_vret C hr hz ⟨rfl, rfl, fun _ => rfl, fun _ => rfl⟩ rfl (fun j x h => by simp at h) dL_house_224
noncomputable def b_L_house_225  (w : Nat) (a : AS) (x12 : Int64) (x14 : Int32) (x15 : Int32) (x16 : Int32) (x17 : Int32)  : Option (AS × Int32) := (if x14 = (6 : Int32) then (bif ixB x16 20 then yl (up2 a 11 x16.toNatClampNeg ((a 11 x16.toNatClampNeg) + x17)) (fun a19 => (f_L_send w a19 (1 : Int32) (8 : Int32) (2 : Int32) x15 x17 (0 : Int32)).bind (fun v20 => some (v20.1, (0 : Int32)))) else none) else ((f_L_part w a x12 (13 : Int32)).bind (fun v7 => bif ixB x16 20 then yl (up2 a 8 x16.toNatClampNeg v7) (fun a9 => (f_L_part w a9 x12 (21 : Int32)).bind (fun v10 => yl (up2 a9 9 x16.toNatClampNeg v10) (fun a11 => bif ixB x15 10 then bif ixB (21 : Int32) 22 then yl (up2 a11 12 x15.toNatClampNeg (((a11 12 x15.toNatClampNeg) &&& (255 : Int32)) ||| ((a11 1 (21 : Int32).toNatClampNeg) <<< ((8 : Int32) &&& 31)))) (fun a14 => yl (up2 a14 1 (21 : Int32).toNatClampNeg ((a14 1 (21 : Int32).toNatClampNeg) + (1 : Int32))) (fun a15 => (f_L_send w a15 (1 : Int32) (8 : Int32) (3 : Int32) x15 (a15 8 x16.toNatClampNeg) (a15 9 x16.toNatClampNeg)).bind (fun v16 => (f_L_route w v16.1 x15).bind (fun v17 => some (v17.1, (0 : Int32)))))) else none else none))) else none)))
set_option maxHeartbeats 4000000 in
set_option maxRecDepth 100000 in
theorem lb_L_house_225 {p : Program} {l : Launch} {e : Env} {s : State} {m : MethodId} {args : Array Value} {below : List Frame} {meth : Method} {c : Code} {D : va_G} {E : Nat → ClassId} {sz : Nat} {M : Nat → Nat → Nat → Int32} {a0 : AS} {ρ : YR} {w : Nat} {r0 : AS × Int32} (C : cx p s m args meth c D E (Aof (mx M a0, ρ) [] s.heap.size) cL_house 18 "TradeLineLaw") (hr : meth.sig.returnType = none) (hz : s.heap.size = sz) (hρ : rsh ρ) {a : AS} {x12 : Int64} {x14 : Int32} {x15 : Int32} {x16 : Int32} {x17 : Int32}    (h : b_L_house_225  w a x12 x14 x15 x16 x17  = some r0) : G p l e ({ frames := 4, cells := 0, slots := 0, locals := 115 } : Room) s m args below meth c D E (Aof (mx M a0, ρ) [] s.heap.size) 18 (MQ below (cQ D E sz (mx M a0, ρ) [] (pV (fun u => u = ((mx M r0.1, ρ), [])))) args s 0 0 (Aof (mx M a0, ρ) [] s.heap.size)) (mx M a, ρ) [] 0 0 225 [(0, .ref (ρ.2.2.2 (40 + 1) 0)), (1, .ref (ρ.2.2.2 (40 + 2) 0)), (2, .ref (ρ.2.2.2 (40 + 3) 0)), (3, .ref (ρ.2.2.2 (40 + 4) 0)), (4, .ref (ρ.2.2.2 (40 + 5) 0)), (5, .ref (ρ.2.2.2 (40 + 8) 0)), (6, .ref (ρ.2.2.2 (40 + 9) 0)), (7, .ref (ρ.2.2.2 (40 + 10) 0)), (8, .ref (ρ.2.2.2 (40 + 11) 0)), (9, .ref (ρ.2.2.2 (40 + 12) 0)), (10, .ref (ρ.2.2.2 (40 + 13) 0)), (11, .ref (ρ.2.2.2 (40 + 14) 0)), (12, .long x12), (14, .int x14), (15, .int x15), (16, .int x16), (17, .int x17)] [] := by
  unfold b_L_house_225 at h
  refine g_iload C dL_house_225 13 rfl ?_
  refine g_bipush (v := (6 : Int32)) C dL_house_227 (by decide) ?_
  refine g_icmp_ne (tgt := 261) C dL_house_229 (by decide) (fun c229 => ?_) (fun c229 => ?_)
  · replace h := (if_neg c229).symm.trans h
    refine g_aload C dL_house_261 5 rfl ?_
    refine g_iload C dL_house_263 15 rfl ?_
    refine g_lload C dL_house_265 12 rfl ?_
    refine g_bipush (v := (13 : Int32)) C dL_house_267 (by decide) ?_
    obtain ⟨v7, hv7, h⟩ := bind_of h
    refine g_cSi (n := 2) (exc := []) (exr := []) C [_, _] _ rfl rfl [] [] rfl rfl rfl rfl (fun _ h => absurd h (by simp)) (fun _ h => absurd h (by simp)) (fun _ h => absurd h (by simp)) (fun sz => k_L_part l M ρ hρ w _ _ _ _ hv7 D E sz) rfl gw_1002 gw_0 gw_1000 gw_1001 ⟨by decide +kernel, by decide +kernel, by decide +kernel⟩ ⟨rfl, rfl⟩ ⟨Nat.le_of_ble_eq_true rfl, Nat.le_of_ble_eq_true rfl⟩ (Nat.le_of_ble_eq_true rfl) dL_house_269 ⟨by decide, by decide⟩ (fun r u hp hx => ?_)
    obtain ⟨er, rfl⟩ := hp
    rw [er]
    try dsimp only [List.append_nil]
    obtain ⟨g8, h⟩ := of_guard h
    refine q_iast C hρ (j := 8) (N := 20) (by decide) rfl g8 dL_house_272 (fun a9 ea9 => ?_)
    replace h := yl_of h ea9
    refine g_aload C dL_house_273 6 rfl ?_
    refine g_iload C dL_house_275 15 rfl ?_
    refine g_lload C dL_house_277 12 rfl ?_
    refine g_bipush (v := (21 : Int32)) C dL_house_279 (by decide) ?_
    obtain ⟨v10, hv10, h⟩ := bind_of h
    refine g_cSi (n := 2) (exc := []) (exr := []) C [_, _] _ rfl rfl [] [] rfl rfl rfl rfl (fun _ h => absurd h (by simp)) (fun _ h => absurd h (by simp)) (fun _ h => absurd h (by simp)) (fun sz => k_L_part l M ρ hρ w _ _ _ _ hv10 D E sz) rfl gw_1002 gw_0 gw_1000 gw_1001 ⟨by decide +kernel, by decide +kernel, by decide +kernel⟩ ⟨rfl, rfl⟩ ⟨Nat.le_of_ble_eq_true rfl, Nat.le_of_ble_eq_true rfl⟩ (Nat.le_of_ble_eq_true rfl) dL_house_281 ⟨by decide, by decide⟩ (fun r u hp hx => ?_)
    obtain ⟨er, rfl⟩ := hp
    rw [er]
    try dsimp only [List.append_nil]
    refine q_iast C hρ (j := 9) (N := 20) (by decide) rfl g8 dL_house_284 (fun a11 ea11 => ?_)
    replace h := yl_of h ea11
    refine g_aload C dL_house_285 9 rfl ?_
    refine g_iload C dL_house_287 14 rfl ?_
    refine g_aload C dL_house_289 9 rfl ?_
    refine g_iload C dL_house_291 14 rfl ?_
    obtain ⟨g12, h⟩ := of_guard h
    refine q_iald C hρ (j := 12) (N := 10) (by decide) rfl g12 dL_house_293 ?_
    refine g_sipush (v := (255 : Int32)) C dL_house_294 (by decide) ?_
    refine g_iand C dL_house_297 ?_
    refine g_aload_n C dL_house_298 rfl 0 rfl ?_
    refine g_bipush (v := (21 : Int32)) C dL_house_299 (by decide) ?_
    obtain ⟨g13, h⟩ := of_guard h
    refine q_iald C hρ (j := 1) (N := 22) (by decide) rfl g13 dL_house_301 ?_
    refine g_bipush (v := (8 : Int32)) C dL_house_302 (by decide) ?_
    refine g_ishl C dL_house_304 ?_
    refine g_ior C dL_house_305 ?_
    refine q_iast C hρ (j := 12) (N := 10) (by decide) rfl g12 dL_house_306 (fun a14 ea14 => ?_)
    replace h := yl_of h ea14
    refine g_aload_n C dL_house_307 rfl 0 rfl ?_
    refine g_bipush (v := (21 : Int32)) C dL_house_308 (by decide) ?_
    refine g_dup2 C dL_house_310 rfl rfl ?_
    refine q_iald C hρ (j := 1) (N := 22) (by decide) rfl g13 dL_house_311 ?_
    refine g_iconst (v := (1 : Int32)) C dL_house_312 (by decide) ?_
    refine g_iadd C dL_house_313 ?_
    refine q_iast C hρ (j := 1) (N := 22) (by decide) rfl g13 dL_house_314 (fun a15 ea15 => ?_)
    replace h := yl_of h ea15
    refine g_aload_n C dL_house_315 rfl 0 rfl ?_
    refine g_aload_n C dL_house_316 rfl 1 rfl ?_
    refine g_aload_n C dL_house_317 rfl 2 rfl ?_
    refine g_aload_n C dL_house_318 rfl 3 rfl ?_
    refine g_aload C dL_house_319 4 rfl ?_
    refine g_iconst (v := (1 : Int32)) C dL_house_321 (by decide) ?_
    refine g_bipush (v := (8 : Int32)) C dL_house_322 (by decide) ?_
    refine g_iconst (v := (3 : Int32)) C dL_house_324 (by decide) ?_
    refine g_iload C dL_house_325 14 rfl ?_
    refine g_aload C dL_house_327 5 rfl ?_
    refine g_iload C dL_house_329 15 rfl ?_
    refine q_iald C hρ (j := 8) (N := 20) (by decide) rfl g8 dL_house_331 ?_
    refine g_aload C dL_house_332 6 rfl ?_
    refine g_iload C dL_house_334 15 rfl ?_
    refine q_iald C hρ (j := 9) (N := 20) (by decide) rfl g8 dL_house_336 ?_
    obtain ⟨v16, hv16, h⟩ := bind_of h
    refine g_cSv (n := 11) (exc := []) (exr := []) C [_, _, _, _, _, _, _, _, _, _, _] _ rfl rfl [] [] rfl rfl rfl rfl (fun _ h => absurd h (by simp)) (fun _ h => absurd h (by simp)) (fun _ h => absurd h (by simp)) (fun sz => k_L_send l M ρ hρ w _ _ _ _ _ _ _ _ hv16 D E sz) rfl gw_458 gw_0 gw_456 gw_457 ⟨by decide +kernel, by decide +kernel, by decide +kernel⟩ ⟨rfl, rfl⟩ ⟨Nat.le_of_ble_eq_true rfl, Nat.le_of_ble_eq_true rfl⟩ (Nat.le_of_ble_eq_true rfl) dL_house_337 ⟨by decide, by decide⟩ (fun u hp hx => ?_)
    obtain rfl := hp
    try dsimp only [List.append_nil]
    refine g_aload_n C dL_house_340 rfl 0 rfl ?_
    refine g_aload_n C dL_house_341 rfl 1 rfl ?_
    refine g_aload_n C dL_house_342 rfl 2 rfl ?_
    refine g_aload_n C dL_house_343 rfl 3 rfl ?_
    refine g_aload C dL_house_344 4 rfl ?_
    refine g_aload C dL_house_346 5 rfl ?_
    refine g_aload C dL_house_348 6 rfl ?_
    refine g_aload C dL_house_350 7 rfl ?_
    refine g_aload C dL_house_352 8 rfl ?_
    refine g_aload C dL_house_354 9 rfl ?_
    refine g_aload C dL_house_356 10 rfl ?_
    refine g_aload C dL_house_358 11 rfl ?_
    refine g_iload C dL_house_360 14 rfl ?_
    obtain ⟨v17, hv17, h⟩ := bind_of h
    refine g_cSv (n := 13) (exc := []) (exr := []) C [_, _, _, _, _, _, _, _, _, _, _, _, _] _ rfl rfl [] [] rfl rfl rfl rfl (fun _ h => absurd h (by simp)) (fun _ h => absurd h (by simp)) (fun _ h => absurd h (by simp)) (fun sz => k_L_route l M ρ hρ w _ _ _ hv17 D E sz) rfl gw_1029 gw_0 gw_1027 gw_1028 ⟨by decide +kernel, by decide +kernel, by decide +kernel⟩ ⟨rfl, rfl⟩ ⟨Nat.le_of_ble_eq_true rfl, Nat.le_of_ble_eq_true rfl⟩ (Nat.le_of_ble_eq_true rfl) dL_house_362 ⟨by decide, by decide⟩ (fun u hp hx => ?_)
    obtain rfl := hp
    try dsimp only [List.append_nil]
    obtain rfl := Option.some.inj h
    exact g_vret C hr hz ⟨rfl, rfl, fun _ => rfl, fun _ => rfl⟩ rfl (fun j x h => by simp at h) dL_house_365
  · replace h := (if_pos c229).symm.trans h
    refine g_aload C dL_house_232 8 rfl ?_
    refine g_iload C dL_house_234 15 rfl ?_
    refine g_dup2 C dL_house_236 rfl rfl ?_
    obtain ⟨g18, h⟩ := of_guard h
    refine q_iald C hρ (j := 11) (N := 20) (by decide) rfl g18 dL_house_237 ?_
    refine g_iload C dL_house_238 16 rfl ?_
    refine g_iadd C dL_house_240 ?_
    refine q_iast C hρ (j := 11) (N := 20) (by decide) rfl g18 dL_house_241 (fun a19 ea19 => ?_)
    replace h := yl_of h ea19
    refine g_aload_n C dL_house_242 rfl 0 rfl ?_
    refine g_aload_n C dL_house_243 rfl 1 rfl ?_
    refine g_aload_n C dL_house_244 rfl 2 rfl ?_
    refine g_aload_n C dL_house_245 rfl 3 rfl ?_
    refine g_aload C dL_house_246 4 rfl ?_
    refine g_iconst (v := (1 : Int32)) C dL_house_248 (by decide) ?_
    refine g_bipush (v := (8 : Int32)) C dL_house_249 (by decide) ?_
    refine g_iconst (v := (2 : Int32)) C dL_house_251 (by decide) ?_
    refine g_iload C dL_house_252 14 rfl ?_
    refine g_iload C dL_house_254 16 rfl ?_
    refine g_iconst (v := (0 : Int32)) C dL_house_256 (by decide) ?_
    obtain ⟨v20, hv20, h⟩ := bind_of h
    refine g_cSv (n := 11) (exc := []) (exr := []) C [_, _, _, _, _, _, _, _, _, _, _] _ rfl rfl [] [] rfl rfl rfl rfl (fun _ h => absurd h (by simp)) (fun _ h => absurd h (by simp)) (fun _ h => absurd h (by simp)) (fun sz => k_L_send l M ρ hρ w _ _ _ _ _ _ _ _ hv20 D E sz) rfl gw_458 gw_0 gw_456 gw_457 ⟨by decide +kernel, by decide +kernel, by decide +kernel⟩ ⟨rfl, rfl⟩ ⟨Nat.le_of_ble_eq_true rfl, Nat.le_of_ble_eq_true rfl⟩ (Nat.le_of_ble_eq_true rfl) dL_house_257 ⟨by decide, by decide⟩ (fun u hp hx => ?_)
    obtain rfl := hp
    try dsimp only [List.append_nil]
    obtain rfl := Option.some.inj h
    exact g_vret C hr hz ⟨rfl, rfl, fun _ => rfl, fun _ => rfl⟩ rfl (fun j x h => by simp at h) dL_house_260
noncomputable def b_L_house_172  (w : Nat) (a : AS) (x12 : Int64) (x14 : Int32) (x15 : Int32) (x16 : Int32) (s0 : Int32) : Option (AS × Int32) := (if s0 = (0 : Int32) then (b_L_house_207  w a x15) else ((if x14 = (7 : Int32) then ((f_L_part w a x12 (21 : Int32)).bind (fun v21 => bif ixB x16 20 then (if ((a 10 x16.toNatClampNeg) + (a 11 x16.toNatClampNeg)) < v21 then (b_L_house_225  w a x12 x14 x15 x16 s0) else (b_L_house_207  w a x15)) else none)) else (b_L_house_225  w a x12 x14 x15 x16 s0))))
set_option maxHeartbeats 4000000 in
set_option maxRecDepth 100000 in
theorem lb_L_house_172 {p : Program} {l : Launch} {e : Env} {s : State} {m : MethodId} {args : Array Value} {below : List Frame} {meth : Method} {c : Code} {D : va_G} {E : Nat → ClassId} {sz : Nat} {M : Nat → Nat → Nat → Int32} {a0 : AS} {ρ : YR} {w : Nat} {r0 : AS × Int32} (C : cx p s m args meth c D E (Aof (mx M a0, ρ) [] s.heap.size) cL_house 18 "TradeLineLaw") (hr : meth.sig.returnType = none) (hz : s.heap.size = sz) (hρ : rsh ρ) {a : AS} {x12 : Int64} {x14 : Int32} {x15 : Int32} {x16 : Int32} {s0 : Int32}   (h : b_L_house_172  w a x12 x14 x15 x16 s0 = some r0) : G p l e ({ frames := 4, cells := 0, slots := 0, locals := 115 } : Room) s m args below meth c D E (Aof (mx M a0, ρ) [] s.heap.size) 18 (MQ below (cQ D E sz (mx M a0, ρ) [] (pV (fun u => u = ((mx M r0.1, ρ), [])))) args s 0 0 (Aof (mx M a0, ρ) [] s.heap.size)) (mx M a, ρ) [] 0 0 172 [(0, .ref (ρ.2.2.2 (40 + 1) 0)), (1, .ref (ρ.2.2.2 (40 + 2) 0)), (2, .ref (ρ.2.2.2 (40 + 3) 0)), (3, .ref (ρ.2.2.2 (40 + 4) 0)), (4, .ref (ρ.2.2.2 (40 + 5) 0)), (5, .ref (ρ.2.2.2 (40 + 8) 0)), (6, .ref (ρ.2.2.2 (40 + 9) 0)), (7, .ref (ρ.2.2.2 (40 + 10) 0)), (8, .ref (ρ.2.2.2 (40 + 11) 0)), (9, .ref (ρ.2.2.2 (40 + 12) 0)), (10, .ref (ρ.2.2.2 (40 + 13) 0)), (11, .ref (ρ.2.2.2 (40 + 14) 0)), (12, .long x12), (14, .int x14), (15, .int x15), (16, .int x16)] [.int s0] := by
  unfold b_L_house_172 at h
  refine g_istore (lv' := [(17, .int s0), (0, .ref (ρ.2.2.2 (40 + 1) 0)), (1, .ref (ρ.2.2.2 (40 + 2) 0)), (2, .ref (ρ.2.2.2 (40 + 3) 0)), (3, .ref (ρ.2.2.2 (40 + 4) 0)), (4, .ref (ρ.2.2.2 (40 + 5) 0)), (5, .ref (ρ.2.2.2 (40 + 8) 0)), (6, .ref (ρ.2.2.2 (40 + 9) 0)), (7, .ref (ρ.2.2.2 (40 + 10) 0)), (8, .ref (ρ.2.2.2 (40 + 11) 0)), (9, .ref (ρ.2.2.2 (40 + 12) 0)), (10, .ref (ρ.2.2.2 (40 + 13) 0)), (11, .ref (ρ.2.2.2 (40 + 14) 0)), (12, .long x12), (14, .int x14), (15, .int x15), (16, .int x16)]) C dL_house_172 (by decide) rfl ?_
  refine g_iload C dL_house_174 0 rfl ?_
  refine g_if_eq (tgt := 207) C dL_house_176 (by decide) (fun c176 => ?_) (fun c176 => ?_)
  · replace h := (if_pos c176).symm.trans h
    refine g_lv [1, 2, 3, 4, 5, 15] rfl ?_
    exact lb_L_house_207 C hr hz hρ  h
  · replace h := (if_neg c176).symm.trans h
    refine g_iload C dL_house_179 14 rfl ?_
    refine g_bipush (v := (7 : Int32)) C dL_house_181 (by decide) ?_
    refine g_icmp_ne (tgt := 225) C dL_house_183 (by decide) (fun c183 => ?_) (fun c183 => ?_)
    · replace h := (if_neg c183).symm.trans h
      refine g_lv [1, 2, 3, 4, 5, 6, 7, 8, 9, 10, 11, 12, 13, 14, 15, 16, 0] rfl ?_
      exact lb_L_house_225 C hr hz hρ  h
    · replace h := (if_pos c183).symm.trans h
      refine g_lload C dL_house_186 13 rfl ?_
      refine g_bipush (v := (21 : Int32)) C dL_house_188 (by decide) ?_
      obtain ⟨v21, hv21, h⟩ := bind_of h
      refine g_cSi (n := 2) (exc := []) (exr := []) C [_, _] _ rfl rfl [] [] rfl rfl rfl rfl (fun _ h => absurd h (by simp)) (fun _ h => absurd h (by simp)) (fun _ h => absurd h (by simp)) (fun sz => k_L_part l M ρ hρ w _ _ _ _ hv21 D E sz) rfl gw_1002 gw_0 gw_1000 gw_1001 ⟨by decide +kernel, by decide +kernel, by decide +kernel⟩ ⟨rfl, rfl⟩ ⟨Nat.le_of_ble_eq_true rfl, Nat.le_of_ble_eq_true rfl⟩ (Nat.le_of_ble_eq_true rfl) dL_house_190 ⟨by decide, by decide⟩ (fun r u hp hx => ?_)
      obtain ⟨er, rfl⟩ := hp
      rw [er]
      try dsimp only [List.append_nil]
      refine g_aload C dL_house_193 8 rfl ?_
      refine g_iload C dL_house_195 16 rfl ?_
      obtain ⟨g22, h⟩ := of_guard h
      refine q_iald C hρ (j := 10) (N := 20) (by decide) rfl g22 dL_house_197 ?_
      refine g_aload C dL_house_198 9 rfl ?_
      refine g_iload C dL_house_200 16 rfl ?_
      refine q_iald C hρ (j := 11) (N := 20) (by decide) rfl g22 dL_house_202 ?_
      refine g_iadd C dL_house_203 ?_
      refine g_icmp_gt (tgt := 225) C dL_house_204 (by decide) (fun c204 => ?_) (fun c204 => ?_)
      · replace h := (if_pos c204).symm.trans h
        refine g_lv [1, 2, 3, 4, 5, 6, 7, 8, 9, 10, 11, 12, 13, 14, 15, 16, 0] rfl ?_
        exact lb_L_house_225 C hr hz hρ  h
      · replace h := (if_neg c204).symm.trans h
        refine g_lv [1, 2, 3, 4, 5, 15] rfl ?_
        exact lb_L_house_207 C hr hz hρ  h
noncomputable def f_L_house  (w : Nat) (a : AS) (x12 : Int64)  : Option (AS × Int32) := yl ((Int64.toInt32 (x12 &&& (15 : Int64)))) (fun t1 => (f_L_part w a x12 (5 : Int32)).bind (fun v2 => yl (((10 : Int32) + v2)) (fun t3 => (if t1 = (5 : Int32) then (bif ixB v2 10 then (if ((a 12 v2.toNatClampNeg) &&& (4 : Int32)) ≤ (0 : Int32) then (yl (up2 a 12 v2.toNatClampNeg ((a 12 v2.toNatClampNeg) ||| (4 : Int32))) (fun a24 => (f_L_part w a24 x12 (21 : Int32)).bind (fun v25 => bif ixB t3 20 then yl (up2 a24 8 t3.toNatClampNeg v25) (fun a27 => (f_L_part w a27 x12 (29 : Int32)).bind (fun v28 => yl (up2 a27 9 t3.toNatClampNeg v28) (fun a29 => bif ixB (21 : Int32) 22 then yl (up2 a29 12 v2.toNatClampNeg (((a29 12 v2.toNatClampNeg) &&& (255 : Int32)) ||| ((a29 1 (21 : Int32).toNatClampNeg) <<< ((8 : Int32) &&& 31)))) (fun a31 => yl (up2 a31 1 (21 : Int32).toNatClampNeg ((a31 1 (21 : Int32).toNatClampNeg) + (1 : Int32))) (fun a32 => (f_L_send w a32 (1 : Int32) (8 : Int32) (0 : Int32) v2 (0 : Int32) (0 : Int32)).bind (fun v33 => (f_L_route w v33.1 v2).bind (fun v34 => some (v34.1, (0 : Int32)))))) else none))) else none))) else (some (a, (0 : Int32)))) else none) else (bif ixB v2 10 then (if ((a 12 v2.toNatClampNeg) &&& (4 : Int32)) = (0 : Int32) then (b_L_house_172  w a x12 t1 v2 t3 (0 : Int32)) else ((f_L_rest w a t3).bind (fun v5 => b_L_house_172  w a x12 t1 v2 t3 v5))) else none)))))
set_option maxHeartbeats 4000000 in
set_option maxRecDepth 100000 in
theorem lb_L_house_0 {p : Program} {l : Launch} {e : Env} {s : State} {m : MethodId} {args : Array Value} {below : List Frame} {meth : Method} {c : Code} {D : va_G} {E : Nat → ClassId} {sz : Nat} {M : Nat → Nat → Nat → Int32} {a0 : AS} {ρ : YR} {w : Nat} {r0 : AS × Int32} (C : cx p s m args meth c D E (Aof (mx M a0, ρ) [] s.heap.size) cL_house 18 "TradeLineLaw") (hr : meth.sig.returnType = none) (hz : s.heap.size = sz) (hρ : rsh ρ) {a : AS} {x12 : Int64}    (h : f_L_house  w a x12  = some r0) : G p l e ({ frames := 4, cells := 0, slots := 0, locals := 115 } : Room) s m args below meth c D E (Aof (mx M a0, ρ) [] s.heap.size) 18 (MQ below (cQ D E sz (mx M a0, ρ) [] (pV (fun u => u = ((mx M r0.1, ρ), [])))) args s 0 0 (Aof (mx M a0, ρ) [] s.heap.size)) (mx M a, ρ) [] 0 0 0 [(0, .ref (ρ.2.2.2 (40 + 1) 0)), (1, .ref (ρ.2.2.2 (40 + 2) 0)), (2, .ref (ρ.2.2.2 (40 + 3) 0)), (3, .ref (ρ.2.2.2 (40 + 4) 0)), (4, .ref (ρ.2.2.2 (40 + 5) 0)), (5, .ref (ρ.2.2.2 (40 + 8) 0)), (6, .ref (ρ.2.2.2 (40 + 9) 0)), (7, .ref (ρ.2.2.2 (40 + 10) 0)), (8, .ref (ρ.2.2.2 (40 + 11) 0)), (9, .ref (ρ.2.2.2 (40 + 12) 0)), (10, .ref (ρ.2.2.2 (40 + 13) 0)), (11, .ref (ρ.2.2.2 (40 + 14) 0)), (12, .long x12)] [] := by
  unfold f_L_house at h
  refine g_lload C dL_house_0 12 rfl ?_
  refine g_ldc2 (v := (15 : Int64)) C gw_999 dL_house_2 ?_
  refine g_land C dL_house_5 ?_
  refine g_l2i C dL_house_6 ?_
  refine q_topi (fun t1 et1 => ?_)
  replace h := yl_of h et1
  refine g_istore (lv' := [(14, .int t1), (0, .ref (ρ.2.2.2 (40 + 1) 0)), (1, .ref (ρ.2.2.2 (40 + 2) 0)), (2, .ref (ρ.2.2.2 (40 + 3) 0)), (3, .ref (ρ.2.2.2 (40 + 4) 0)), (4, .ref (ρ.2.2.2 (40 + 5) 0)), (5, .ref (ρ.2.2.2 (40 + 8) 0)), (6, .ref (ρ.2.2.2 (40 + 9) 0)), (7, .ref (ρ.2.2.2 (40 + 10) 0)), (8, .ref (ρ.2.2.2 (40 + 11) 0)), (9, .ref (ρ.2.2.2 (40 + 12) 0)), (10, .ref (ρ.2.2.2 (40 + 13) 0)), (11, .ref (ρ.2.2.2 (40 + 14) 0)), (12, .long x12)]) C dL_house_7 (by decide) rfl ?_
  refine g_lload C dL_house_9 13 rfl ?_
  refine g_iconst (v := (5 : Int32)) C dL_house_11 (by decide) ?_
  obtain ⟨v2, hv2, h⟩ := bind_of h
  refine g_cSi (n := 2) (exc := []) (exr := []) C [_, _] _ rfl rfl [] [] rfl rfl rfl rfl (fun _ h => absurd h (by simp)) (fun _ h => absurd h (by simp)) (fun _ h => absurd h (by simp)) (fun sz => k_L_part l M ρ hρ w _ _ _ _ hv2 D E sz) rfl gw_1002 gw_0 gw_1000 gw_1001 ⟨by decide +kernel, by decide +kernel, by decide +kernel⟩ ⟨rfl, rfl⟩ ⟨Nat.le_of_ble_eq_true rfl, Nat.le_of_ble_eq_true rfl⟩ (Nat.le_of_ble_eq_true rfl) dL_house_12 ⟨by decide, by decide⟩ (fun r u hp hx => ?_)
  obtain ⟨er, rfl⟩ := hp
  rw [er]
  try dsimp only [List.append_nil]
  refine g_istore (lv' := [(15, .int v2), (14, .int t1), (0, .ref (ρ.2.2.2 (40 + 1) 0)), (1, .ref (ρ.2.2.2 (40 + 2) 0)), (2, .ref (ρ.2.2.2 (40 + 3) 0)), (3, .ref (ρ.2.2.2 (40 + 4) 0)), (4, .ref (ρ.2.2.2 (40 + 5) 0)), (5, .ref (ρ.2.2.2 (40 + 8) 0)), (6, .ref (ρ.2.2.2 (40 + 9) 0)), (7, .ref (ρ.2.2.2 (40 + 10) 0)), (8, .ref (ρ.2.2.2 (40 + 11) 0)), (9, .ref (ρ.2.2.2 (40 + 12) 0)), (10, .ref (ρ.2.2.2 (40 + 13) 0)), (11, .ref (ρ.2.2.2 (40 + 14) 0)), (12, .long x12)]) C dL_house_15 (by decide) rfl ?_
  refine g_bipush (v := (10 : Int32)) C dL_house_17 (by decide) ?_
  refine g_iload C dL_house_19 0 rfl ?_
  refine g_iadd C dL_house_21 ?_
  refine q_topi (fun t3 et3 => ?_)
  replace h := yl_of h et3
  refine g_istore (lv' := [(16, .int t3), (15, .int v2), (14, .int t1), (0, .ref (ρ.2.2.2 (40 + 1) 0)), (1, .ref (ρ.2.2.2 (40 + 2) 0)), (2, .ref (ρ.2.2.2 (40 + 3) 0)), (3, .ref (ρ.2.2.2 (40 + 4) 0)), (4, .ref (ρ.2.2.2 (40 + 5) 0)), (5, .ref (ρ.2.2.2 (40 + 8) 0)), (6, .ref (ρ.2.2.2 (40 + 9) 0)), (7, .ref (ρ.2.2.2 (40 + 10) 0)), (8, .ref (ρ.2.2.2 (40 + 11) 0)), (9, .ref (ρ.2.2.2 (40 + 12) 0)), (10, .ref (ρ.2.2.2 (40 + 13) 0)), (11, .ref (ρ.2.2.2 (40 + 14) 0)), (12, .long x12)]) C dL_house_22 (by decide) rfl ?_
  refine g_iload C dL_house_24 2 rfl ?_
  refine g_iconst (v := (5 : Int32)) C dL_house_26 (by decide) ?_
  refine g_icmp_ne (tgt := 147) C dL_house_27 (by decide) (fun c27 => ?_) (fun c27 => ?_)
  · replace h := (if_neg c27).symm.trans h
    refine g_aload C dL_house_147 12 rfl ?_
    refine g_iload C dL_house_149 1 rfl ?_
    obtain ⟨g4, h⟩ := of_guard h
    refine q_iald C hρ (j := 12) (N := 10) (by decide) rfl g4 dL_house_151 ?_
    refine g_iconst (v := (4 : Int32)) C dL_house_152 (by decide) ?_
    refine g_iand C dL_house_153 ?_
    refine g_if_ne (tgt := 161) C dL_house_154 (by decide) (fun c154 => ?_) (fun c154 => ?_)
    · replace h := (if_neg c154).symm.trans h
      refine g_aload C dL_house_161 9 rfl ?_
      refine g_aload C dL_house_163 10 rfl ?_
      refine g_aload C dL_house_165 11 rfl ?_
      refine g_iload C dL_house_167 0 rfl ?_
      obtain ⟨v5, hv5, h⟩ := bind_of h
      refine g_cSi (n := 4) (exc := []) (exr := []) C [_, _, _, _] _ rfl rfl [] [] rfl rfl rfl rfl (fun _ h => absurd h (by simp)) (fun _ h => absurd h (by simp)) (fun _ h => absurd h (by simp)) (fun sz => k_L_rest l M ρ hρ w _ _ _ hv5 D E sz) rfl gw_1035 gw_0 gw_1033 gw_1034 ⟨by decide +kernel, by decide +kernel, by decide +kernel⟩ ⟨rfl, rfl⟩ ⟨Nat.le_of_ble_eq_true rfl, Nat.le_of_ble_eq_true rfl⟩ (Nat.le_of_ble_eq_true rfl) dL_house_169 ⟨by decide, by decide⟩ (fun r u hp hx => ?_)
      obtain ⟨er, rfl⟩ := hp
      rw [er]
      try dsimp only [List.append_nil]
      refine g_lv [3, 4, 5, 6, 7, 8, 9, 10, 11, 12, 13, 14, 15, 2, 1, 0] rfl ?_
      exact lb_L_house_172 C hr hz hρ  h
    · replace h := (if_pos c154).symm.trans h
      refine g_iconst (v := (0 : Int32)) C dL_house_157 (by decide) ?_
      refine g_goto (tgt := 172) C dL_house_158 (by decide) ?_
      refine g_lv [3, 4, 5, 6, 7, 8, 9, 10, 11, 12, 13, 14, 15, 2, 1, 0] rfl ?_
      exact lb_L_house_172 C hr hz hρ  h
  · replace h := (if_pos c27).symm.trans h
    refine g_aload C dL_house_30 12 rfl ?_
    refine g_iload C dL_house_32 1 rfl ?_
    obtain ⟨g23, h⟩ := of_guard h
    refine q_iald C hρ (j := 12) (N := 10) (by decide) rfl g23 dL_house_34 ?_
    refine g_iconst (v := (4 : Int32)) C dL_house_35 (by decide) ?_
    refine g_iand C dL_house_36 ?_
    refine g_if_le (tgt := 41) C dL_house_37 (by decide) (fun c37 => ?_) (fun c37 => ?_)
    · replace h := (if_pos c37).symm.trans h
      refine g_aload C dL_house_41 12 rfl ?_
      refine g_iload C dL_house_43 1 rfl ?_
      refine g_dup2 C dL_house_45 rfl rfl ?_
      refine q_iald C hρ (j := 12) (N := 10) (by decide) rfl g23 dL_house_46 ?_
      refine g_iconst (v := (4 : Int32)) C dL_house_47 (by decide) ?_
      refine g_ior C dL_house_48 ?_
      refine q_iast C hρ (j := 12) (N := 10) (by decide) rfl g23 dL_house_49 (fun a24 ea24 => ?_)
      replace h := yl_of h ea24
      refine g_aload C dL_house_50 8 rfl ?_
      refine g_iload C dL_house_52 0 rfl ?_
      refine g_lload C dL_house_54 15 rfl ?_
      refine g_bipush (v := (21 : Int32)) C dL_house_56 (by decide) ?_
      obtain ⟨v25, hv25, h⟩ := bind_of h
      refine g_cSi (n := 2) (exc := []) (exr := []) C [_, _] _ rfl rfl [] [] rfl rfl rfl rfl (fun _ h => absurd h (by simp)) (fun _ h => absurd h (by simp)) (fun _ h => absurd h (by simp)) (fun sz => k_L_part l M ρ hρ w _ _ _ _ hv25 D E sz) rfl gw_1002 gw_0 gw_1000 gw_1001 ⟨by decide +kernel, by decide +kernel, by decide +kernel⟩ ⟨rfl, rfl⟩ ⟨Nat.le_of_ble_eq_true rfl, Nat.le_of_ble_eq_true rfl⟩ (Nat.le_of_ble_eq_true rfl) dL_house_58 ⟨by decide, by decide⟩ (fun r u hp hx => ?_)
      obtain ⟨er, rfl⟩ := hp
      rw [er]
      try dsimp only [List.append_nil]
      obtain ⟨g26, h⟩ := of_guard h
      refine q_iast C hρ (j := 8) (N := 20) (by decide) rfl g26 dL_house_61 (fun a27 ea27 => ?_)
      replace h := yl_of h ea27
      refine g_aload C dL_house_62 9 rfl ?_
      refine g_iload C dL_house_64 0 rfl ?_
      refine g_lload C dL_house_66 15 rfl ?_
      refine g_bipush (v := (29 : Int32)) C dL_house_68 (by decide) ?_
      obtain ⟨v28, hv28, h⟩ := bind_of h
      refine g_cSi (n := 2) (exc := []) (exr := []) C [_, _] _ rfl rfl [] [] rfl rfl rfl rfl (fun _ h => absurd h (by simp)) (fun _ h => absurd h (by simp)) (fun _ h => absurd h (by simp)) (fun sz => k_L_part l M ρ hρ w _ _ _ _ hv28 D E sz) rfl gw_1002 gw_0 gw_1000 gw_1001 ⟨by decide +kernel, by decide +kernel, by decide +kernel⟩ ⟨rfl, rfl⟩ ⟨Nat.le_of_ble_eq_true rfl, Nat.le_of_ble_eq_true rfl⟩ (Nat.le_of_ble_eq_true rfl) dL_house_70 ⟨by decide, by decide⟩ (fun r u hp hx => ?_)
      obtain ⟨er, rfl⟩ := hp
      rw [er]
      try dsimp only [List.append_nil]
      refine q_iast C hρ (j := 9) (N := 20) (by decide) rfl g26 dL_house_73 (fun a29 ea29 => ?_)
      replace h := yl_of h ea29
      refine g_aload C dL_house_74 12 rfl ?_
      refine g_iload C dL_house_76 1 rfl ?_
      refine g_aload C dL_house_78 12 rfl ?_
      refine g_iload C dL_house_80 1 rfl ?_
      refine q_iald C hρ (j := 12) (N := 10) (by decide) rfl g23 dL_house_82 ?_
      refine g_sipush (v := (255 : Int32)) C dL_house_83 (by decide) ?_
      refine g_iand C dL_house_86 ?_
      refine g_aload_n C dL_house_87 rfl 3 rfl ?_
      refine g_bipush (v := (21 : Int32)) C dL_house_88 (by decide) ?_
      obtain ⟨g30, h⟩ := of_guard h
      refine q_iald C hρ (j := 1) (N := 22) (by decide) rfl g30 dL_house_90 ?_
      refine g_bipush (v := (8 : Int32)) C dL_house_91 (by decide) ?_
      refine g_ishl C dL_house_93 ?_
      refine g_ior C dL_house_94 ?_
      refine q_iast C hρ (j := 12) (N := 10) (by decide) rfl g23 dL_house_95 (fun a31 ea31 => ?_)
      replace h := yl_of h ea31
      refine g_aload_n C dL_house_96 rfl 3 rfl ?_
      refine g_bipush (v := (21 : Int32)) C dL_house_97 (by decide) ?_
      refine g_dup2 C dL_house_99 rfl rfl ?_
      refine q_iald C hρ (j := 1) (N := 22) (by decide) rfl g30 dL_house_100 ?_
      refine g_iconst (v := (1 : Int32)) C dL_house_101 (by decide) ?_
      refine g_iadd C dL_house_102 ?_
      refine q_iast C hρ (j := 1) (N := 22) (by decide) rfl g30 dL_house_103 (fun a32 ea32 => ?_)
      replace h := yl_of h ea32
      refine g_aload_n C dL_house_104 rfl 3 rfl ?_
      refine g_aload_n C dL_house_105 rfl 4 rfl ?_
      refine g_aload_n C dL_house_106 rfl 5 rfl ?_
      refine g_aload_n C dL_house_107 rfl 6 rfl ?_
      refine g_aload C dL_house_108 7 rfl ?_
      refine g_iconst (v := (1 : Int32)) C dL_house_110 (by decide) ?_
      refine g_bipush (v := (8 : Int32)) C dL_house_111 (by decide) ?_
      refine g_iconst (v := (0 : Int32)) C dL_house_113 (by decide) ?_
      refine g_iload C dL_house_114 1 rfl ?_
      refine g_iconst (v := (0 : Int32)) C dL_house_116 (by decide) ?_
      refine g_iconst (v := (0 : Int32)) C dL_house_117 (by decide) ?_
      obtain ⟨v33, hv33, h⟩ := bind_of h
      refine g_cSv (n := 11) (exc := []) (exr := []) C [_, _, _, _, _, _, _, _, _, _, _] _ rfl rfl [] [] rfl rfl rfl rfl (fun _ h => absurd h (by simp)) (fun _ h => absurd h (by simp)) (fun _ h => absurd h (by simp)) (fun sz => k_L_send l M ρ hρ w _ _ _ _ _ _ _ _ hv33 D E sz) rfl gw_458 gw_0 gw_456 gw_457 ⟨by decide +kernel, by decide +kernel, by decide +kernel⟩ ⟨rfl, rfl⟩ ⟨Nat.le_of_ble_eq_true rfl, Nat.le_of_ble_eq_true rfl⟩ (Nat.le_of_ble_eq_true rfl) dL_house_118 ⟨by decide, by decide⟩ (fun u hp hx => ?_)
      obtain rfl := hp
      try dsimp only [List.append_nil]
      refine g_aload_n C dL_house_121 rfl 3 rfl ?_
      refine g_aload_n C dL_house_122 rfl 4 rfl ?_
      refine g_aload_n C dL_house_123 rfl 5 rfl ?_
      refine g_aload_n C dL_house_124 rfl 6 rfl ?_
      refine g_aload C dL_house_125 7 rfl ?_
      refine g_aload C dL_house_127 8 rfl ?_
      refine g_aload C dL_house_129 9 rfl ?_
      refine g_aload C dL_house_131 10 rfl ?_
      refine g_aload C dL_house_133 11 rfl ?_
      refine g_aload C dL_house_135 12 rfl ?_
      refine g_aload C dL_house_137 13 rfl ?_
      refine g_aload C dL_house_139 14 rfl ?_
      refine g_iload C dL_house_141 1 rfl ?_
      obtain ⟨v34, hv34, h⟩ := bind_of h
      refine g_cSv (n := 13) (exc := []) (exr := []) C [_, _, _, _, _, _, _, _, _, _, _, _, _] _ rfl rfl [] [] rfl rfl rfl rfl (fun _ h => absurd h (by simp)) (fun _ h => absurd h (by simp)) (fun _ h => absurd h (by simp)) (fun sz => k_L_route l M ρ hρ w _ _ _ hv34 D E sz) rfl gw_1029 gw_0 gw_1027 gw_1028 ⟨by decide +kernel, by decide +kernel, by decide +kernel⟩ ⟨rfl, rfl⟩ ⟨Nat.le_of_ble_eq_true rfl, Nat.le_of_ble_eq_true rfl⟩ (Nat.le_of_ble_eq_true rfl) dL_house_143 ⟨by decide, by decide⟩ (fun u hp hx => ?_)
      obtain rfl := hp
      try dsimp only [List.append_nil]
      obtain rfl := Option.some.inj h
      exact g_vret C hr hz ⟨rfl, rfl, fun _ => rfl, fun _ => rfl⟩ rfl (fun j x h => by simp at h) dL_house_146
    · replace h := (if_neg c37).symm.trans h
      obtain rfl := Option.some.inj h
      exact g_vret C hr hz ⟨rfl, rfl, fun _ => rfl, fun _ => rfl⟩ rfl (fun j x h => by simp at h) dL_house_40
theorem k_L_house (l : Launch) (M : Nat → Nat → Nat → Int32) (ρ : YR) (hρ : rsh ρ) (w : Nat) (a : AS) (x12 : Int64) (r0 : AS × Int32) (h : f_L_house w a x12 = some r0) : ∀ D E sz, Met l yL_house gwL_house ({ frames := 4, cells := 0, slots := 0, locals := 115 } : Room) (cP D E sz (mx M a, ρ) [] [.ref (ρ.2.2.2 (40 + 1) 0), .ref (ρ.2.2.2 (40 + 2) 0), .ref (ρ.2.2.2 (40 + 3) 0), .ref (ρ.2.2.2 (40 + 4) 0), .ref (ρ.2.2.2 (40 + 5) 0), .ref (ρ.2.2.2 (40 + 8) 0), .ref (ρ.2.2.2 (40 + 9) 0), .ref (ρ.2.2.2 (40 + 10) 0), .ref (ρ.2.2.2 (40 + 11) 0), .ref (ρ.2.2.2 (40 + 12) 0), .ref (ρ.2.2.2 (40 + 13) 0), .ref (ρ.2.2.2 (40 + 14) 0), .long x12]) (cQ D E sz (mx M a, ρ) [] (pV (fun u => u = ((mx M r0.1, ρ), [])))) (0) (0) (Aof (mx M a, ρ) [] sz) := by
  intro D E sz
  refine g_of (cc := cL_house) (maxL := 18) (ret := none) (own := "TradeLineLaw") (by decide) rfl rfl (Nat.le_of_ble_eq_true rfl) ?_
  intro p e s m args below meth c C hr hin hz ha hwr
  refine g_lv [0, 1, 2, 3, 4, 5, 6, 7, 8, 9, 10, 11, 12] rfl ?_
  exact lb_L_house_0 C hr hz hρ h
