noncomputable def f_X9_tagOfReport  (w : Nat) (a : AS) (x1 x2 : Int32) : Option (Int32) := bif ixB x1 16384 then yl ((a 14 x1.toNatClampNeg)) (fun t2 => (if t2 = (1 : Int32) then ((if x2 = (0 : Int32) then (some (382 : Int32)) else ((if ((x2 - (1 : Int32)) - (x2 - (1 : Int32)) / (4 : Int32) * (4 : Int32)) = (0 : Int32) then (some (17 : Int32)) else ((if ((x2 - (1 : Int32)) - (x2 - (1 : Int32)) / (4 : Int32) * (4 : Int32)) = (1 : Int32) then (some (30 : Int32)) else ((if ((x2 - (1 : Int32)) - (x2 - (1 : Int32)) / (4 : Int32) * (4 : Int32)) = (2 : Int32) then (some (31 : Int32)) else (some (32 : Int32)))))))))) else ((if t2 = (2 : Int32) then (some (32 : Int32)) else ((if t2 = (3 : Int32) then ((if x2 = (0 : Int32) then (some (44 : Int32)) else (some (38 : Int32)))) else ((if x2 = (0 : Int32) then (some (17 : Int32)) else (some (31 : Int32)))))))))) else none
set_option maxHeartbeats 4000000 in
set_option maxRecDepth 100000 in
theorem lb_X9_tagOfReport_0 {p : Program} {l : Launch} {e : Env} {s : State} {m : MethodId} {args : Array Value} {below : List Frame} {meth : Method} {c : Code} {D : va_G} {E : Nat → ClassId} {sz : Nat} {M : Nat → Nat → Nat → Int32} {a : AS} {ρ : YR} {w : Nat} {r0 : Int32} (C : cx p s m args meth c D E (Aof (mx M a, ρ) [] s.heap.size) cX9_tagOfReport 4 "TradeLineModel") (hr : meth.sig.returnType = (some .int)) (hz : s.heap.size = sz) (hρ : rsh ρ) {x1 x2 : Int32}   (h : f_X9_tagOfReport  w a x1 x2 = some r0) : G p l e ({ frames := 0, cells := 0, slots := 0, locals := 0 } : Room) s m args below meth c D E (Aof (mx M a, ρ) [] s.heap.size) 4 (MQ below (cQ D E sz (mx M a, ρ) [] (pI (fun r u => r = r0 ∧ u = ((mx M a, ρ), [])))) args s 0 0 (Aof (mx M a, ρ) [] s.heap.size)) (mx M a, ρ) [] 0 0 0 [(0, .ref (ρ.2.2.2 40 0)), (1, .int x1), (2, .int x2)] [] := by
  unfold f_X9_tagOfReport at h
  refine g_aload_n C dX9_tagOfReport_0 rfl 0 rfl ?_
  refine g_get (k := 40) (i := 0) (ref := "TradeLineModel") (v := .ref (ρ.2.2.2 (40 + 14) 0)) C rfl (lvY0 hρ) rfl rfl inGX9 14 (by decide) gw_1343 (fun _ h => h) rfl dX9_tagOfReport_1 ?_
  refine g_iload_n C dX9_tagOfReport_4 rfl 1 rfl ?_
  obtain ⟨g1, h⟩ := of_guard h
  refine q_iald C hρ (j := 14) (N := 16384) (List.mem_of_getElem? (i := 11) rfl) rfl rfl g1 dX9_tagOfReport_5 ?_
  refine q_topi (fun t2 et2 => ?_)
  replace h := yl_of h et2
  refine g_istore_n (lv' := [(3, .int t2), (0, .ref (ρ.2.2.2 40 0)), (1, .int x1), (2, .int x2)]) C dX9_tagOfReport_6 rfl (by decide) rfl ?_
  refine g_iload_n C dX9_tagOfReport_7 rfl 0 rfl ?_
  refine g_iconst (v := (1 : Int32)) C dX9_tagOfReport_8 (by decide) ?_
  refine g_icmp_ne (tgt := 66) C dX9_tagOfReport_9 (by decide) (fun c9 => ?_) (fun c9 => ?_)
  · replace h := (if_neg c9).symm.trans h
    refine g_iload_n C dX9_tagOfReport_66 rfl 0 rfl ?_
    refine g_iconst (v := (2 : Int32)) C dX9_tagOfReport_67 (by decide) ?_
    refine g_icmp_ne (tgt := 76) C dX9_tagOfReport_68 (by decide) (fun c68 => ?_) (fun c68 => ?_)
    · replace h := (if_neg c68).symm.trans h
      refine g_iload_n C dX9_tagOfReport_76 rfl 0 rfl ?_
      refine g_iconst (v := (3 : Int32)) C dX9_tagOfReport_77 (by decide) ?_
      refine g_icmp_ne (tgt := 95) C dX9_tagOfReport_78 (by decide) (fun c78 => ?_) (fun c78 => ?_)
      · replace h := (if_neg c78).symm.trans h
        refine g_iload_n C dX9_tagOfReport_95 rfl 3 rfl ?_
        refine g_if_ne (tgt := 104) C dX9_tagOfReport_96 (by decide) (fun c96 => ?_) (fun c96 => ?_)
        · replace h := (if_neg c96).symm.trans h
          refine g_bipush (v := (31 : Int32)) C dX9_tagOfReport_104 (by decide) ?_
          exact g_iret C hr rfl hz ⟨rfl, rfl, fun _ => rfl, fun _ => rfl⟩ ⟨Option.some.inj h, rfl⟩ (fun j x h => by simp at h) dX9_tagOfReport_106
        · replace h := (if_pos c96).symm.trans h
          refine g_bipush (v := (17 : Int32)) C dX9_tagOfReport_99 (by decide) ?_
          refine g_goto (tgt := 106) C dX9_tagOfReport_101 (by decide) ?_
          exact g_iret C hr rfl hz ⟨rfl, rfl, fun _ => rfl, fun _ => rfl⟩ ⟨Option.some.inj h, rfl⟩ (fun j x h => by simp at h) dX9_tagOfReport_106
      · replace h := (if_pos c78).symm.trans h
        refine g_iload_n C dX9_tagOfReport_81 rfl 3 rfl ?_
        refine g_if_ne (tgt := 90) C dX9_tagOfReport_82 (by decide) (fun c82 => ?_) (fun c82 => ?_)
        · replace h := (if_neg c82).symm.trans h
          refine g_bipush (v := (38 : Int32)) C dX9_tagOfReport_90 (by decide) ?_
          refine g_goto (tgt := 106) C dX9_tagOfReport_92 (by decide) ?_
          exact g_iret C hr rfl hz ⟨rfl, rfl, fun _ => rfl, fun _ => rfl⟩ ⟨Option.some.inj h, rfl⟩ (fun j x h => by simp at h) dX9_tagOfReport_106
        · replace h := (if_pos c82).symm.trans h
          refine g_bipush (v := (44 : Int32)) C dX9_tagOfReport_85 (by decide) ?_
          refine g_goto (tgt := 106) C dX9_tagOfReport_87 (by decide) ?_
          exact g_iret C hr rfl hz ⟨rfl, rfl, fun _ => rfl, fun _ => rfl⟩ ⟨Option.some.inj h, rfl⟩ (fun j x h => by simp at h) dX9_tagOfReport_106
    · replace h := (if_pos c68).symm.trans h
      refine g_bipush (v := (32 : Int32)) C dX9_tagOfReport_71 (by decide) ?_
      refine g_goto (tgt := 106) C dX9_tagOfReport_73 (by decide) ?_
      exact g_iret C hr rfl hz ⟨rfl, rfl, fun _ => rfl, fun _ => rfl⟩ ⟨Option.some.inj h, rfl⟩ (fun j x h => by simp at h) dX9_tagOfReport_106
  · replace h := (if_pos c9).symm.trans h
    refine g_iload_n C dX9_tagOfReport_12 rfl 3 rfl ?_
    refine g_if_ne (tgt := 22) C dX9_tagOfReport_13 (by decide) (fun c13 => ?_) (fun c13 => ?_)
    · replace h := (if_neg c13).symm.trans h
      refine g_iload_n C dX9_tagOfReport_22 rfl 3 rfl ?_
      refine g_iconst (v := (1 : Int32)) C dX9_tagOfReport_23 (by decide) ?_
      refine g_isub C dX9_tagOfReport_24 ?_
      refine g_iconst (v := (4 : Int32)) C dX9_tagOfReport_25 (by decide) ?_
      refine g_irem C dX9_tagOfReport_26 (by decide) ?_
      refine g_if_ne (tgt := 35) C dX9_tagOfReport_27 (by decide) (fun c27 => ?_) (fun c27 => ?_)
      · replace h := (if_neg c27).symm.trans h
        refine g_iload_n C dX9_tagOfReport_35 rfl 3 rfl ?_
        refine g_iconst (v := (1 : Int32)) C dX9_tagOfReport_36 (by decide) ?_
        refine g_isub C dX9_tagOfReport_37 ?_
        refine g_iconst (v := (4 : Int32)) C dX9_tagOfReport_38 (by decide) ?_
        refine g_irem C dX9_tagOfReport_39 (by decide) ?_
        refine g_iconst (v := (1 : Int32)) C dX9_tagOfReport_40 (by decide) ?_
        refine g_icmp_ne (tgt := 49) C dX9_tagOfReport_41 (by decide) (fun c41 => ?_) (fun c41 => ?_)
        · replace h := (if_neg c41).symm.trans h
          refine g_iload_n C dX9_tagOfReport_49 rfl 3 rfl ?_
          refine g_iconst (v := (1 : Int32)) C dX9_tagOfReport_50 (by decide) ?_
          refine g_isub C dX9_tagOfReport_51 ?_
          refine g_iconst (v := (4 : Int32)) C dX9_tagOfReport_52 (by decide) ?_
          refine g_irem C dX9_tagOfReport_53 (by decide) ?_
          refine g_iconst (v := (2 : Int32)) C dX9_tagOfReport_54 (by decide) ?_
          refine g_icmp_ne (tgt := 63) C dX9_tagOfReport_55 (by decide) (fun c55 => ?_) (fun c55 => ?_)
          · replace h := (if_neg c55).symm.trans h
            refine g_bipush (v := (32 : Int32)) C dX9_tagOfReport_63 (by decide) ?_
            exact g_iret C hr rfl hz ⟨rfl, rfl, fun _ => rfl, fun _ => rfl⟩ ⟨Option.some.inj h, rfl⟩ (fun j x h => by simp at h) dX9_tagOfReport_65
          · replace h := (if_pos c55).symm.trans h
            refine g_bipush (v := (31 : Int32)) C dX9_tagOfReport_58 (by decide) ?_
            refine g_goto (tgt := 65) C dX9_tagOfReport_60 (by decide) ?_
            exact g_iret C hr rfl hz ⟨rfl, rfl, fun _ => rfl, fun _ => rfl⟩ ⟨Option.some.inj h, rfl⟩ (fun j x h => by simp at h) dX9_tagOfReport_65
        · replace h := (if_pos c41).symm.trans h
          refine g_bipush (v := (30 : Int32)) C dX9_tagOfReport_44 (by decide) ?_
          refine g_goto (tgt := 65) C dX9_tagOfReport_46 (by decide) ?_
          exact g_iret C hr rfl hz ⟨rfl, rfl, fun _ => rfl, fun _ => rfl⟩ ⟨Option.some.inj h, rfl⟩ (fun j x h => by simp at h) dX9_tagOfReport_65
      · replace h := (if_pos c27).symm.trans h
        refine g_bipush (v := (17 : Int32)) C dX9_tagOfReport_30 (by decide) ?_
        refine g_goto (tgt := 65) C dX9_tagOfReport_32 (by decide) ?_
        exact g_iret C hr rfl hz ⟨rfl, rfl, fun _ => rfl, fun _ => rfl⟩ ⟨Option.some.inj h, rfl⟩ (fun j x h => by simp at h) dX9_tagOfReport_65
    · replace h := (if_pos c13).symm.trans h
      refine g_sipush (v := (382 : Int32)) C dX9_tagOfReport_16 (by decide) ?_
      refine g_goto (tgt := 65) C dX9_tagOfReport_19 (by decide) ?_
      exact g_iret C hr rfl hz ⟨rfl, rfl, fun _ => rfl, fun _ => rfl⟩ ⟨Option.some.inj h, rfl⟩ (fun j x h => by simp at h) dX9_tagOfReport_65
theorem k_X9_tagOfReport (l : Launch) (M : Nat → Nat → Nat → Int32) (ρ : YR) (hρ : rsh ρ) (w : Nat) (a : AS) (x1 x2 : Int32) (r0 : Int32) (h : f_X9_tagOfReport w a x1 x2 = some r0) : ∀ D E sz, Met l yX9_tagOfReport gwX9_tagOfReport ({ frames := 0, cells := 0, slots := 0, locals := 0 } : Room) (cP D E sz (mx M a, ρ) [] [.ref (ρ.2.2.2 40 0), .int x1, .int x2]) (cQ D E sz (mx M a, ρ) [] (pI (fun r u => r = r0 ∧ u = ((mx M a, ρ), [])))) (0) (0) (Aof (mx M a, ρ) [] sz) := by
  intro D E sz
  refine g_of (cc := cX9_tagOfReport) (maxL := 4) (ret := (some .int)) (own := "TradeLineModel") (by decide) rfl rfl (Nat.le_of_ble_eq_true rfl) ?_
  intro p e s m args below meth c C hr hin hz ha hwr
  refine g_lv [0, 1, 2] rfl ?_
  exact lb_X9_tagOfReport_0 C hr hz hρ h
noncomputable def f_X9_valueOfReport  (w : Nat) (a : AS) (x1 x2 : Int32) : Option (Int32) := bif ixB x1 16384 then (if (a 14 x1.toNatClampNeg) = (1 : Int32) then (yl (((a 16 x1.toNatClampNeg) + ((x2 - (1 : Int32)) / (4 : Int32)))) (fun t2 => (if x2 = (0 : Int32) then (some (a 17 x1.toNatClampNeg)) else ((if ((x2 - (1 : Int32)) - (x2 - (1 : Int32)) / (4 : Int32) * (4 : Int32)) = (0 : Int32) then (some t2) else ((if ((x2 - (1 : Int32)) - (x2 - (1 : Int32)) / (4 : Int32) * (4 : Int32)) = (1 : Int32) then (bif ixB t2 100 then some (a 37 t2.toNatClampNeg) else none) else ((if ((x2 - (1 : Int32)) - (x2 - (1 : Int32)) / (4 : Int32) * (4 : Int32)) = (2 : Int32) then (bif ixB t2 100 then some (a 40 t2.toNatClampNeg) else none) else (bif ixB t2 100 then some (a 39 t2.toNatClampNeg) else none)))))))))) else ((if x2 = (0 : Int32) then (some (a 16 x1.toNatClampNeg)) else (some (a 17 x1.toNatClampNeg))))) else none
set_option maxHeartbeats 4000000 in
set_option maxRecDepth 100000 in
theorem lb_X9_valueOfReport_0 {p : Program} {l : Launch} {e : Env} {s : State} {m : MethodId} {args : Array Value} {below : List Frame} {meth : Method} {c : Code} {D : va_G} {E : Nat → ClassId} {sz : Nat} {M : Nat → Nat → Nat → Int32} {a : AS} {ρ : YR} {w : Nat} {r0 : Int32} (C : cx p s m args meth c D E (Aof (mx M a, ρ) [] s.heap.size) cX9_valueOfReport 4 "TradeLineModel") (hr : meth.sig.returnType = (some .int)) (hz : s.heap.size = sz) (hρ : rsh ρ) {x1 x2 : Int32}   (h : f_X9_valueOfReport  w a x1 x2 = some r0) : G p l e ({ frames := 0, cells := 0, slots := 0, locals := 0 } : Room) s m args below meth c D E (Aof (mx M a, ρ) [] s.heap.size) 4 (MQ below (cQ D E sz (mx M a, ρ) [] (pI (fun r u => r = r0 ∧ u = ((mx M a, ρ), [])))) args s 0 0 (Aof (mx M a, ρ) [] s.heap.size)) (mx M a, ρ) [] 0 0 0 [(0, .ref (ρ.2.2.2 40 0)), (1, .int x1), (2, .int x2)] [] := by
  unfold f_X9_valueOfReport at h
  refine g_aload_n C dX9_valueOfReport_0 rfl 0 rfl ?_
  refine g_get (k := 40) (i := 0) (ref := "TradeLineModel") (v := .ref (ρ.2.2.2 (40 + 14) 0)) C rfl (lvY0 hρ) rfl rfl inGX9 14 (by decide) gw_1343 (fun _ h => h) rfl dX9_valueOfReport_1 ?_
  refine g_iload_n C dX9_valueOfReport_4 rfl 1 rfl ?_
  obtain ⟨g1, h⟩ := of_guard h
  refine q_iald C hρ (j := 14) (N := 16384) (List.mem_of_getElem? (i := 11) rfl) rfl rfl g1 dX9_valueOfReport_5 ?_
  refine g_iconst (v := (1 : Int32)) C dX9_valueOfReport_6 (by decide) ?_
  refine g_icmp_eq (tgt := 30) C dX9_valueOfReport_7 (by decide) (fun c7 => ?_) (fun c7 => ?_)
  · replace h := (if_pos c7).symm.trans h
    refine g_aload_n C dX9_valueOfReport_30 rfl 0 rfl ?_
    refine g_get (k := 40) (i := 0) (ref := "TradeLineModel") (v := .ref (ρ.2.2.2 (40 + 16) 0)) C rfl (lvY0 hρ) rfl rfl inGX9 16 (by decide) gw_1345 (fun _ h => h) rfl dX9_valueOfReport_31 ?_
    refine g_iload_n C dX9_valueOfReport_34 rfl 1 rfl ?_
    refine q_iald C hρ (j := 16) (N := 16384) (List.mem_of_getElem? (i := 13) rfl) rfl rfl g1 dX9_valueOfReport_35 ?_
    refine g_iload_n C dX9_valueOfReport_36 rfl 2 rfl ?_
    refine g_iconst (v := (1 : Int32)) C dX9_valueOfReport_37 (by decide) ?_
    refine g_isub C dX9_valueOfReport_38 ?_
    refine g_iconst (v := (4 : Int32)) C dX9_valueOfReport_39 (by decide) ?_
    refine g_idiv C dX9_valueOfReport_40 (by decide) ?_
    refine g_iadd C dX9_valueOfReport_41 ?_
    refine q_topi (fun t2 et2 => ?_)
    replace h := yl_of h et2
    refine g_istore_n (lv' := [(3, .int t2), (0, .ref (ρ.2.2.2 40 0)), (1, .int x1), (2, .int x2)]) C dX9_valueOfReport_42 rfl (by decide) rfl ?_
    refine g_iload_n C dX9_valueOfReport_43 rfl 3 rfl ?_
    refine g_if_ne (tgt := 56) C dX9_valueOfReport_44 (by decide) (fun c44 => ?_) (fun c44 => ?_)
    · replace h := (if_neg c44).symm.trans h
      refine g_iload_n C dX9_valueOfReport_56 rfl 3 rfl ?_
      refine g_iconst (v := (1 : Int32)) C dX9_valueOfReport_57 (by decide) ?_
      refine g_isub C dX9_valueOfReport_58 ?_
      refine g_iconst (v := (4 : Int32)) C dX9_valueOfReport_59 (by decide) ?_
      refine g_irem C dX9_valueOfReport_60 (by decide) ?_
      refine g_if_ne (tgt := 68) C dX9_valueOfReport_61 (by decide) (fun c61 => ?_) (fun c61 => ?_)
      · replace h := (if_neg c61).symm.trans h
        refine g_iload_n C dX9_valueOfReport_68 rfl 3 rfl ?_
        refine g_iconst (v := (1 : Int32)) C dX9_valueOfReport_69 (by decide) ?_
        refine g_isub C dX9_valueOfReport_70 ?_
        refine g_iconst (v := (4 : Int32)) C dX9_valueOfReport_71 (by decide) ?_
        refine g_irem C dX9_valueOfReport_72 (by decide) ?_
        refine g_iconst (v := (1 : Int32)) C dX9_valueOfReport_73 (by decide) ?_
        refine g_icmp_ne (tgt := 86) C dX9_valueOfReport_74 (by decide) (fun c74 => ?_) (fun c74 => ?_)
        · replace h := (if_neg c74).symm.trans h
          refine g_iload_n C dX9_valueOfReport_86 rfl 3 rfl ?_
          refine g_iconst (v := (1 : Int32)) C dX9_valueOfReport_87 (by decide) ?_
          refine g_isub C dX9_valueOfReport_88 ?_
          refine g_iconst (v := (4 : Int32)) C dX9_valueOfReport_89 (by decide) ?_
          refine g_irem C dX9_valueOfReport_90 (by decide) ?_
          refine g_iconst (v := (2 : Int32)) C dX9_valueOfReport_91 (by decide) ?_
          refine g_icmp_ne (tgt := 104) C dX9_valueOfReport_92 (by decide) (fun c92 => ?_) (fun c92 => ?_)
          · replace h := (if_neg c92).symm.trans h
            refine g_aload_n C dX9_valueOfReport_104 rfl 1 rfl ?_
            refine g_get (k := 40) (i := 0) (ref := "TradeLineModel") (v := .ref (ρ.2.2.2 (40 + 39) 0)) C rfl (lvY0 hρ) rfl rfl inGX9 39 (by decide) gw_1368 (fun _ h => h) rfl dX9_valueOfReport_105 ?_
            refine g_iload_n C dX9_valueOfReport_108 rfl 0 rfl ?_
            obtain ⟨g3, h⟩ := of_guard h
            refine q_iald C hρ (j := 39) (N := 100) (List.mem_of_getElem? (i := 33) rfl) rfl rfl g3 dX9_valueOfReport_109 ?_
            exact g_iret C hr rfl hz ⟨rfl, rfl, fun _ => rfl, fun _ => rfl⟩ ⟨Option.some.inj h, rfl⟩ (fun j x h => by simp at h) dX9_valueOfReport_110
          · replace h := (if_pos c92).symm.trans h
            refine g_aload_n C dX9_valueOfReport_95 rfl 1 rfl ?_
            refine g_get (k := 40) (i := 0) (ref := "TradeLineModel") (v := .ref (ρ.2.2.2 (40 + 40) 0)) C rfl (lvY0 hρ) rfl rfl inGX9 40 (by decide) gw_1369 (fun _ h => h) rfl dX9_valueOfReport_96 ?_
            refine g_iload_n C dX9_valueOfReport_99 rfl 0 rfl ?_
            obtain ⟨g4, h⟩ := of_guard h
            refine q_iald C hρ (j := 40) (N := 100) (List.mem_of_getElem? (i := 34) rfl) rfl rfl g4 dX9_valueOfReport_100 ?_
            refine g_goto (tgt := 110) C dX9_valueOfReport_101 (by decide) ?_
            exact g_iret C hr rfl hz ⟨rfl, rfl, fun _ => rfl, fun _ => rfl⟩ ⟨Option.some.inj h, rfl⟩ (fun j x h => by simp at h) dX9_valueOfReport_110
        · replace h := (if_pos c74).symm.trans h
          refine g_aload_n C dX9_valueOfReport_77 rfl 1 rfl ?_
          refine g_get (k := 40) (i := 0) (ref := "TradeLineModel") (v := .ref (ρ.2.2.2 (40 + 37) 0)) C rfl (lvY0 hρ) rfl rfl inGX9 37 (by decide) gw_1366 (fun _ h => h) rfl dX9_valueOfReport_78 ?_
          refine g_iload_n C dX9_valueOfReport_81 rfl 0 rfl ?_
          obtain ⟨g5, h⟩ := of_guard h
          refine q_iald C hρ (j := 37) (N := 100) (List.mem_of_getElem? (i := 31) rfl) rfl rfl g5 dX9_valueOfReport_82 ?_
          refine g_goto (tgt := 110) C dX9_valueOfReport_83 (by decide) ?_
          exact g_iret C hr rfl hz ⟨rfl, rfl, fun _ => rfl, fun _ => rfl⟩ ⟨Option.some.inj h, rfl⟩ (fun j x h => by simp at h) dX9_valueOfReport_110
      · replace h := (if_pos c61).symm.trans h
        refine g_iload_n C dX9_valueOfReport_64 rfl 0 rfl ?_
        refine g_goto (tgt := 110) C dX9_valueOfReport_65 (by decide) ?_
        exact g_iret C hr rfl hz ⟨rfl, rfl, fun _ => rfl, fun _ => rfl⟩ ⟨Option.some.inj h, rfl⟩ (fun j x h => by simp at h) dX9_valueOfReport_110
    · replace h := (if_pos c44).symm.trans h
      refine g_aload_n C dX9_valueOfReport_47 rfl 1 rfl ?_
      refine g_get (k := 40) (i := 0) (ref := "TradeLineModel") (v := .ref (ρ.2.2.2 (40 + 17) 0)) C rfl (lvY0 hρ) rfl rfl inGX9 17 (by decide) gw_1346 (fun _ h => h) rfl dX9_valueOfReport_48 ?_
      refine g_iload_n C dX9_valueOfReport_51 rfl 2 rfl ?_
      refine q_iald C hρ (j := 17) (N := 16384) (List.mem_of_getElem? (i := 14) rfl) rfl rfl g1 dX9_valueOfReport_52 ?_
      refine g_goto (tgt := 110) C dX9_valueOfReport_53 (by decide) ?_
      exact g_iret C hr rfl hz ⟨rfl, rfl, fun _ => rfl, fun _ => rfl⟩ ⟨Option.some.inj h, rfl⟩ (fun j x h => by simp at h) dX9_valueOfReport_110
  · replace h := (if_neg c7).symm.trans h
    refine g_iload_n C dX9_valueOfReport_10 rfl 2 rfl ?_
    refine g_if_ne (tgt := 23) C dX9_valueOfReport_11 (by decide) (fun c11 => ?_) (fun c11 => ?_)
    · replace h := (if_neg c11).symm.trans h
      refine g_aload_n C dX9_valueOfReport_23 rfl 0 rfl ?_
      refine g_get (k := 40) (i := 0) (ref := "TradeLineModel") (v := .ref (ρ.2.2.2 (40 + 17) 0)) C rfl (lvY0 hρ) rfl rfl inGX9 17 (by decide) gw_1346 (fun _ h => h) rfl dX9_valueOfReport_24 ?_
      refine g_iload_n C dX9_valueOfReport_27 rfl 1 rfl ?_
      refine q_iald C hρ (j := 17) (N := 16384) (List.mem_of_getElem? (i := 14) rfl) rfl rfl g1 dX9_valueOfReport_28 ?_
      exact g_iret C hr rfl hz ⟨rfl, rfl, fun _ => rfl, fun _ => rfl⟩ ⟨Option.some.inj h, rfl⟩ (fun j x h => by simp at h) dX9_valueOfReport_29
    · replace h := (if_pos c11).symm.trans h
      refine g_aload_n C dX9_valueOfReport_14 rfl 0 rfl ?_
      refine g_get (k := 40) (i := 0) (ref := "TradeLineModel") (v := .ref (ρ.2.2.2 (40 + 16) 0)) C rfl (lvY0 hρ) rfl rfl inGX9 16 (by decide) gw_1345 (fun _ h => h) rfl dX9_valueOfReport_15 ?_
      refine g_iload_n C dX9_valueOfReport_18 rfl 1 rfl ?_
      refine q_iald C hρ (j := 16) (N := 16384) (List.mem_of_getElem? (i := 13) rfl) rfl rfl g1 dX9_valueOfReport_19 ?_
      refine g_goto (tgt := 29) C dX9_valueOfReport_20 (by decide) ?_
      exact g_iret C hr rfl hz ⟨rfl, rfl, fun _ => rfl, fun _ => rfl⟩ ⟨Option.some.inj h, rfl⟩ (fun j x h => by simp at h) dX9_valueOfReport_29
theorem k_X9_valueOfReport (l : Launch) (M : Nat → Nat → Nat → Int32) (ρ : YR) (hρ : rsh ρ) (w : Nat) (a : AS) (x1 x2 : Int32) (r0 : Int32) (h : f_X9_valueOfReport w a x1 x2 = some r0) : ∀ D E sz, Met l yX9_valueOfReport gwX9_valueOfReport ({ frames := 0, cells := 0, slots := 0, locals := 0 } : Room) (cP D E sz (mx M a, ρ) [] [.ref (ρ.2.2.2 40 0), .int x1, .int x2]) (cQ D E sz (mx M a, ρ) [] (pI (fun r u => r = r0 ∧ u = ((mx M a, ρ), [])))) (0) (0) (Aof (mx M a, ρ) [] sz) := by
  intro D E sz
  refine g_of (cc := cX9_valueOfReport) (maxL := 4) (ret := (some .int)) (own := "TradeLineModel") (by decide) rfl rfl (Nat.le_of_ble_eq_true rfl) ?_
  intro p e s m args below meth c C hr hin hz ha hwr
  refine g_lv [0, 1, 2] rfl ?_
  exact lb_X9_valueOfReport_0 C hr hz hρ h
noncomputable def f_X9_ownTag  (w : Nat) (a : AS) (x1 x2 : Int32) : Option (Int32) := bif ixB x1 16384 then (if (a 11 x1.toNatClampNeg) = (3 : Int32) then (some (7 : Int32)) else (if (a 11 x1.toNatClampNeg) = (4 : Int32) then ((if x2 = (0 : Int32) then (some (150 : Int32)) else ((if x2 = (1 : Int32) then (some (37 : Int32)) else ((f_X9_tagOfReport w a x1 (x2 - (2 : Int32))).bind (fun v2 => some v2)))))) else (if (a 11 x1.toNatClampNeg) = (5 : Int32) then ((if x2 = (0 : Int32) then (some (11 : Int32)) else ((if x2 = (1 : Int32) then (some (54 : Int32)) else ((if x2 = (2 : Int32) then (some (44 : Int32)) else (some (38 : Int32)))))))) else (if (a 11 x1.toNatClampNeg) = (6 : Int32) then ((if x2 = (0 : Int32) then (some (41 : Int32)) else ((if x2 = (1 : Int32) then (some (44 : Int32)) else (some (38 : Int32)))))) else (if (a 11 x1.toNatClampNeg) = (7 : Int32) then ((if x2 = (0 : Int32) then (some (41 : Int32)) else ((if x2 = (1 : Int32) then (some (44 : Int32)) else (some (38 : Int32)))))) else (if x2 = (0 : Int32) then (some (150 : Int32)) else ((if x2 = (1 : Int32) then (some (37 : Int32)) else ((f_X9_tagOfReport w a x1 (x2 - (2 : Int32))).bind (fun v3 => some v3)))))))))) else none
set_option maxHeartbeats 4000000 in
set_option maxRecDepth 100000 in
theorem lb_X9_ownTag_0 {p : Program} {l : Launch} {e : Env} {s : State} {m : MethodId} {args : Array Value} {below : List Frame} {meth : Method} {c : Code} {D : va_G} {E : Nat → ClassId} {sz : Nat} {M : Nat → Nat → Nat → Int32} {a : AS} {ρ : YR} {w : Nat} {r0 : Int32} (C : cx p s m args meth c D E (Aof (mx M a, ρ) [] s.heap.size) cX9_ownTag 3 "TradeLineModel") (hr : meth.sig.returnType = (some .int)) (hz : s.heap.size = sz) (hρ : rsh ρ) {x1 x2 : Int32}   (h : f_X9_ownTag  w a x1 x2 = some r0) : G p l e ({ frames := 1, cells := 0, slots := 0, locals := 23 } : Room) s m args below meth c D E (Aof (mx M a, ρ) [] s.heap.size) 3 (MQ below (cQ D E sz (mx M a, ρ) [] (pI (fun r u => r = r0 ∧ u = ((mx M a, ρ), [])))) args s 0 0 (Aof (mx M a, ρ) [] s.heap.size)) (mx M a, ρ) [] 0 0 0 [(0, .ref (ρ.2.2.2 40 0)), (1, .int x1), (2, .int x2)] [] := by
  unfold f_X9_ownTag at h
  refine g_aload_n C dX9_ownTag_0 rfl 0 rfl ?_
  refine g_get (k := 40) (i := 0) (ref := "TradeLineModel") (v := .ref (ρ.2.2.2 (40 + 11) 0)) C rfl (lvY0 hρ) rfl rfl inGX9 11 (by decide) gw_1340 (fun _ h => h) rfl dX9_ownTag_1 ?_
  refine g_iload_n C dX9_ownTag_4 rfl 1 rfl ?_
  obtain ⟨g1, h⟩ := of_guard h
  refine q_iald C hρ (j := 11) (N := 16384) (List.mem_of_getElem? (i := 8) rfl) rfl rfl g1 dX9_ownTag_5 ?_
  by_cases w6_3 : (a 11 x1.toNatClampNeg) = (3 : Int32)
  · replace h := (if_pos w6_3).symm.trans h
    refine g_tswI (v := (3 : Int32)) (off := 34) (tgt := 40) C dX9_ownTag_6 w6_3 (by decide) (by decide) (by decide) ?_
    refine g_bipush (v := (7 : Int32)) C dX9_ownTag_40 (by decide) ?_
    exact g_iret C hr rfl hz ⟨rfl, rfl, fun _ => rfl, fun _ => rfl⟩ ⟨Option.some.inj h, rfl⟩ (fun j x h => by simp at h) dX9_ownTag_42
  replace h := (if_neg w6_3).symm.trans h
  by_cases w6_4 : (a 11 x1.toNatClampNeg) = (4 : Int32)
  · replace h := (if_pos w6_4).symm.trans h
    refine g_tswI (v := (4 : Int32)) (off := 91) (tgt := 97) C dX9_ownTag_6 w6_4 (by decide) (by decide) (by decide) ?_
    refine g_iload_n C dX9_ownTag_97 rfl 2 rfl ?_
    refine g_if_ne (tgt := 107) C dX9_ownTag_98 (by decide) (fun c98 => ?_) (fun c98 => ?_)
    · replace h := (if_neg c98).symm.trans h
      refine g_iload_n C dX9_ownTag_107 rfl 2 rfl ?_
      refine g_iconst (v := (1 : Int32)) C dX9_ownTag_108 (by decide) ?_
      refine g_icmp_ne (tgt := 117) C dX9_ownTag_109 (by decide) (fun c109 => ?_) (fun c109 => ?_)
      · replace h := (if_neg c109).symm.trans h
        refine g_aload_n C dX9_ownTag_117 rfl 0 rfl ?_
        refine g_iload_n C dX9_ownTag_118 rfl 1 rfl ?_
        refine g_iload_n C dX9_ownTag_119 rfl 2 rfl ?_
        refine g_iconst (v := (2 : Int32)) C dX9_ownTag_120 (by decide) ?_
        refine g_isub C dX9_ownTag_121 ?_
        obtain ⟨v2, hv2, h⟩ := bind_of h
        refine g_cVi (n := 2) (exc := []) (exr := []) C [_, _] _ rfl rfl [] [] rfl rfl rfl rfl (fun _ h => absurd h (by simp)) (fun _ h => absurd h (by simp)) (fun _ h => absurd h (by simp)) (fun sz => k_X9_tagOfReport l M ρ hρ w _ _ _ _ hv2 D E sz) rfl gw_1647 gw_9 gw_1644 gw_1646 gs_70 ⟨by decide +kernel, by decide +kernel, by decide +kernel⟩ ⟨rfl, rfl⟩ ⟨Nat.le_of_ble_eq_true rfl, Nat.le_of_ble_eq_true rfl⟩ (rcvT (lvY0 hρ) rfl rfl rfl) (Nat.le_of_ble_eq_true rfl) dX9_ownTag_122 ⟨by decide, by decide⟩ (fun r u hp hx => ?_)
        obtain ⟨er, rfl⟩ := hp
        rw [er]
        try dsimp only [List.append_nil]
        exact g_iret C hr rfl hz ⟨rfl, rfl, fun _ => rfl, fun _ => rfl⟩ ⟨Option.some.inj h, rfl⟩ (fun j x h => by simp at h) dX9_ownTag_125
      · replace h := (if_pos c109).symm.trans h
        refine g_bipush (v := (37 : Int32)) C dX9_ownTag_112 (by decide) ?_
        refine g_goto (tgt := 125) C dX9_ownTag_114 (by decide) ?_
        exact g_iret C hr rfl hz ⟨rfl, rfl, fun _ => rfl, fun _ => rfl⟩ ⟨Option.some.inj h, rfl⟩ (fun j x h => by simp at h) dX9_ownTag_125
    · replace h := (if_pos c98).symm.trans h
      refine g_sipush (v := (150 : Int32)) C dX9_ownTag_101 (by decide) ?_
      refine g_goto (tgt := 125) C dX9_ownTag_104 (by decide) ?_
      exact g_iret C hr rfl hz ⟨rfl, rfl, fun _ => rfl, fun _ => rfl⟩ ⟨Option.some.inj h, rfl⟩ (fun j x h => by simp at h) dX9_ownTag_125
  replace h := (if_neg w6_4).symm.trans h
  by_cases w6_5 : (a 11 x1.toNatClampNeg) = (5 : Int32)
  · replace h := (if_pos w6_5).symm.trans h
    refine g_tswI (v := (5 : Int32)) (off := 37) (tgt := 43) C dX9_ownTag_6 w6_5 (by decide) (by decide) (by decide) ?_
    refine g_iload_n C dX9_ownTag_43 rfl 2 rfl ?_
    refine g_if_ne (tgt := 52) C dX9_ownTag_44 (by decide) (fun c44 => ?_) (fun c44 => ?_)
    · replace h := (if_neg c44).symm.trans h
      refine g_iload_n C dX9_ownTag_52 rfl 2 rfl ?_
      refine g_iconst (v := (1 : Int32)) C dX9_ownTag_53 (by decide) ?_
      refine g_icmp_ne (tgt := 62) C dX9_ownTag_54 (by decide) (fun c54 => ?_) (fun c54 => ?_)
      · replace h := (if_neg c54).symm.trans h
        refine g_iload_n C dX9_ownTag_62 rfl 2 rfl ?_
        refine g_iconst (v := (2 : Int32)) C dX9_ownTag_63 (by decide) ?_
        refine g_icmp_ne (tgt := 72) C dX9_ownTag_64 (by decide) (fun c64 => ?_) (fun c64 => ?_)
        · replace h := (if_neg c64).symm.trans h
          refine g_bipush (v := (38 : Int32)) C dX9_ownTag_72 (by decide) ?_
          exact g_iret C hr rfl hz ⟨rfl, rfl, fun _ => rfl, fun _ => rfl⟩ ⟨Option.some.inj h, rfl⟩ (fun j x h => by simp at h) dX9_ownTag_74
        · replace h := (if_pos c64).symm.trans h
          refine g_bipush (v := (44 : Int32)) C dX9_ownTag_67 (by decide) ?_
          refine g_goto (tgt := 74) C dX9_ownTag_69 (by decide) ?_
          exact g_iret C hr rfl hz ⟨rfl, rfl, fun _ => rfl, fun _ => rfl⟩ ⟨Option.some.inj h, rfl⟩ (fun j x h => by simp at h) dX9_ownTag_74
      · replace h := (if_pos c54).symm.trans h
        refine g_bipush (v := (54 : Int32)) C dX9_ownTag_57 (by decide) ?_
        refine g_goto (tgt := 74) C dX9_ownTag_59 (by decide) ?_
        exact g_iret C hr rfl hz ⟨rfl, rfl, fun _ => rfl, fun _ => rfl⟩ ⟨Option.some.inj h, rfl⟩ (fun j x h => by simp at h) dX9_ownTag_74
    · replace h := (if_pos c44).symm.trans h
      refine g_bipush (v := (11 : Int32)) C dX9_ownTag_47 (by decide) ?_
      refine g_goto (tgt := 74) C dX9_ownTag_49 (by decide) ?_
      exact g_iret C hr rfl hz ⟨rfl, rfl, fun _ => rfl, fun _ => rfl⟩ ⟨Option.some.inj h, rfl⟩ (fun j x h => by simp at h) dX9_ownTag_74
  replace h := (if_neg w6_5).symm.trans h
  by_cases w6_6 : (a 11 x1.toNatClampNeg) = (6 : Int32)
  · replace h := (if_pos w6_6).symm.trans h
    refine g_tswI (v := (6 : Int32)) (off := 69) (tgt := 75) C dX9_ownTag_6 w6_6 (by decide) (by decide) (by decide) ?_
    refine g_iload_n C dX9_ownTag_75 rfl 2 rfl ?_
    refine g_if_ne (tgt := 84) C dX9_ownTag_76 (by decide) (fun c76 => ?_) (fun c76 => ?_)
    · replace h := (if_neg c76).symm.trans h
      refine g_iload_n C dX9_ownTag_84 rfl 2 rfl ?_
      refine g_iconst (v := (1 : Int32)) C dX9_ownTag_85 (by decide) ?_
      refine g_icmp_ne (tgt := 94) C dX9_ownTag_86 (by decide) (fun c86 => ?_) (fun c86 => ?_)
      · replace h := (if_neg c86).symm.trans h
        refine g_bipush (v := (38 : Int32)) C dX9_ownTag_94 (by decide) ?_
        exact g_iret C hr rfl hz ⟨rfl, rfl, fun _ => rfl, fun _ => rfl⟩ ⟨Option.some.inj h, rfl⟩ (fun j x h => by simp at h) dX9_ownTag_96
      · replace h := (if_pos c86).symm.trans h
        refine g_bipush (v := (44 : Int32)) C dX9_ownTag_89 (by decide) ?_
        refine g_goto (tgt := 96) C dX9_ownTag_91 (by decide) ?_
        exact g_iret C hr rfl hz ⟨rfl, rfl, fun _ => rfl, fun _ => rfl⟩ ⟨Option.some.inj h, rfl⟩ (fun j x h => by simp at h) dX9_ownTag_96
    · replace h := (if_pos c76).symm.trans h
      refine g_bipush (v := (41 : Int32)) C dX9_ownTag_79 (by decide) ?_
      refine g_goto (tgt := 96) C dX9_ownTag_81 (by decide) ?_
      exact g_iret C hr rfl hz ⟨rfl, rfl, fun _ => rfl, fun _ => rfl⟩ ⟨Option.some.inj h, rfl⟩ (fun j x h => by simp at h) dX9_ownTag_96
  replace h := (if_neg w6_6).symm.trans h
  by_cases w6_7 : (a 11 x1.toNatClampNeg) = (7 : Int32)
  · replace h := (if_pos w6_7).symm.trans h
    refine g_tswI (v := (7 : Int32)) (off := 69) (tgt := 75) C dX9_ownTag_6 w6_7 (by decide) (by decide) (by decide) ?_
    refine g_iload_n C dX9_ownTag_75 rfl 2 rfl ?_
    refine g_if_ne (tgt := 84) C dX9_ownTag_76 (by decide) (fun c76 => ?_) (fun c76 => ?_)
    · replace h := (if_neg c76).symm.trans h
      refine g_iload_n C dX9_ownTag_84 rfl 2 rfl ?_
      refine g_iconst (v := (1 : Int32)) C dX9_ownTag_85 (by decide) ?_
      refine g_icmp_ne (tgt := 94) C dX9_ownTag_86 (by decide) (fun c86 => ?_) (fun c86 => ?_)
      · replace h := (if_neg c86).symm.trans h
        refine g_bipush (v := (38 : Int32)) C dX9_ownTag_94 (by decide) ?_
        exact g_iret C hr rfl hz ⟨rfl, rfl, fun _ => rfl, fun _ => rfl⟩ ⟨Option.some.inj h, rfl⟩ (fun j x h => by simp at h) dX9_ownTag_96
      · replace h := (if_pos c86).symm.trans h
        refine g_bipush (v := (44 : Int32)) C dX9_ownTag_89 (by decide) ?_
        refine g_goto (tgt := 96) C dX9_ownTag_91 (by decide) ?_
        exact g_iret C hr rfl hz ⟨rfl, rfl, fun _ => rfl, fun _ => rfl⟩ ⟨Option.some.inj h, rfl⟩ (fun j x h => by simp at h) dX9_ownTag_96
    · replace h := (if_pos c76).symm.trans h
      refine g_bipush (v := (41 : Int32)) C dX9_ownTag_79 (by decide) ?_
      refine g_goto (tgt := 96) C dX9_ownTag_81 (by decide) ?_
      exact g_iret C hr rfl hz ⟨rfl, rfl, fun _ => rfl, fun _ => rfl⟩ ⟨Option.some.inj h, rfl⟩ (fun j x h => by simp at h) dX9_ownTag_96
  replace h := (if_neg w6_7).symm.trans h
  replace w6_3 := ne_i (n := 3) w6_3 (by decide)
  replace w6_4 := ne_i (n := 4) w6_4 (by decide)
  replace w6_5 := ne_i (n := 5) w6_5 (by decide)
  replace w6_6 := ne_i (n := 6) w6_6 (by decide)
  replace w6_7 := ne_i (n := 7) w6_7 (by decide)
  refine g_tswO (tgt := 97) C dX9_ownTag_6 (by omega) (by decide) ?_
  refine g_iload_n C dX9_ownTag_97 rfl 2 rfl ?_
  refine g_if_ne (tgt := 107) C dX9_ownTag_98 (by decide) (fun c98 => ?_) (fun c98 => ?_)
  · replace h := (if_neg c98).symm.trans h
    refine g_iload_n C dX9_ownTag_107 rfl 2 rfl ?_
    refine g_iconst (v := (1 : Int32)) C dX9_ownTag_108 (by decide) ?_
    refine g_icmp_ne (tgt := 117) C dX9_ownTag_109 (by decide) (fun c109 => ?_) (fun c109 => ?_)
    · replace h := (if_neg c109).symm.trans h
      refine g_aload_n C dX9_ownTag_117 rfl 0 rfl ?_
      refine g_iload_n C dX9_ownTag_118 rfl 1 rfl ?_
      refine g_iload_n C dX9_ownTag_119 rfl 2 rfl ?_
      refine g_iconst (v := (2 : Int32)) C dX9_ownTag_120 (by decide) ?_
      refine g_isub C dX9_ownTag_121 ?_
      obtain ⟨v3, hv3, h⟩ := bind_of h
      refine g_cVi (n := 2) (exc := []) (exr := []) C [_, _] _ rfl rfl [] [] rfl rfl rfl rfl (fun _ h => absurd h (by simp)) (fun _ h => absurd h (by simp)) (fun _ h => absurd h (by simp)) (fun sz => k_X9_tagOfReport l M ρ hρ w _ _ _ _ hv3 D E sz) rfl gw_1647 gw_9 gw_1644 gw_1646 gs_70 ⟨by decide +kernel, by decide +kernel, by decide +kernel⟩ ⟨rfl, rfl⟩ ⟨Nat.le_of_ble_eq_true rfl, Nat.le_of_ble_eq_true rfl⟩ (rcvT (lvY0 hρ) rfl rfl rfl) (Nat.le_of_ble_eq_true rfl) dX9_ownTag_122 ⟨by decide, by decide⟩ (fun r u hp hx => ?_)
      obtain ⟨er, rfl⟩ := hp
      rw [er]
      try dsimp only [List.append_nil]
      exact g_iret C hr rfl hz ⟨rfl, rfl, fun _ => rfl, fun _ => rfl⟩ ⟨Option.some.inj h, rfl⟩ (fun j x h => by simp at h) dX9_ownTag_125
    · replace h := (if_pos c109).symm.trans h
      refine g_bipush (v := (37 : Int32)) C dX9_ownTag_112 (by decide) ?_
      refine g_goto (tgt := 125) C dX9_ownTag_114 (by decide) ?_
      exact g_iret C hr rfl hz ⟨rfl, rfl, fun _ => rfl, fun _ => rfl⟩ ⟨Option.some.inj h, rfl⟩ (fun j x h => by simp at h) dX9_ownTag_125
  · replace h := (if_pos c98).symm.trans h
    refine g_sipush (v := (150 : Int32)) C dX9_ownTag_101 (by decide) ?_
    refine g_goto (tgt := 125) C dX9_ownTag_104 (by decide) ?_
    exact g_iret C hr rfl hz ⟨rfl, rfl, fun _ => rfl, fun _ => rfl⟩ ⟨Option.some.inj h, rfl⟩ (fun j x h => by simp at h) dX9_ownTag_125
theorem k_X9_ownTag (l : Launch) (M : Nat → Nat → Nat → Int32) (ρ : YR) (hρ : rsh ρ) (w : Nat) (a : AS) (x1 x2 : Int32) (r0 : Int32) (h : f_X9_ownTag w a x1 x2 = some r0) : ∀ D E sz, Met l yX9_ownTag gwX9_ownTag ({ frames := 1, cells := 0, slots := 0, locals := 23 } : Room) (cP D E sz (mx M a, ρ) [] [.ref (ρ.2.2.2 40 0), .int x1, .int x2]) (cQ D E sz (mx M a, ρ) [] (pI (fun r u => r = r0 ∧ u = ((mx M a, ρ), [])))) (0) (0) (Aof (mx M a, ρ) [] sz) := by
  intro D E sz
  refine g_of (cc := cX9_ownTag) (maxL := 3) (ret := (some .int)) (own := "TradeLineModel") (by decide) rfl rfl (Nat.le_of_ble_eq_true rfl) ?_
  intro p e s m args below meth c C hr hin hz ha hwr
  refine g_lv [0, 1, 2] rfl ?_
  exact lb_X9_ownTag_0 C hr hz hρ h
noncomputable def b_X9_ownValue_25  (w : Nat) (a : AS) (x1 x2 : Int32) : Option (Int32) := (if x2 = (0 : Int32) then (bif ixB x1 16384 then some (a 14 x1.toNatClampNeg) else none) else ((if x2 = (1 : Int32) then (bif ixB x1 16384 then some (a 15 x1.toNatClampNeg) else none) else ((if x2 = (2 : Int32) then (bif ixB x1 16384 then some (a 16 x1.toNatClampNeg) else none) else (bif ixB x1 16384 then some (a 17 x1.toNatClampNeg) else none))))))
set_option maxHeartbeats 4000000 in
set_option maxRecDepth 100000 in
theorem lb_X9_ownValue_25 {p : Program} {l : Launch} {e : Env} {s : State} {m : MethodId} {args : Array Value} {below : List Frame} {meth : Method} {c : Code} {D : va_G} {E : Nat → ClassId} {sz : Nat} {M : Nat → Nat → Nat → Int32} {a : AS} {ρ : YR} {w : Nat} {r0 : Int32} (C : cx p s m args meth c D E (Aof (mx M a, ρ) [] s.heap.size) cX9_ownValue 3 "TradeLineModel") (hr : meth.sig.returnType = (some .int)) (hz : s.heap.size = sz) (hρ : rsh ρ) {x1 x2 : Int32}   (h : b_X9_ownValue_25  w a x1 x2 = some r0) : G p l e ({ frames := 1, cells := 0, slots := 0, locals := 23 } : Room) s m args below meth c D E (Aof (mx M a, ρ) [] s.heap.size) 3 (MQ below (cQ D E sz (mx M a, ρ) [] (pI (fun r u => r = r0 ∧ u = ((mx M a, ρ), [])))) args s 0 0 (Aof (mx M a, ρ) [] s.heap.size)) (mx M a, ρ) [] 0 0 25 [(0, .ref (ρ.2.2.2 40 0)), (1, .int x1), (2, .int x2)] [] := by
  unfold b_X9_ownValue_25 at h
  refine g_iload_n C dX9_ownValue_25 rfl 2 rfl ?_
  refine g_if_ne (tgt := 38) C dX9_ownValue_26 (by decide) (fun c26 => ?_) (fun c26 => ?_)
  · replace h := (if_neg c26).symm.trans h
    refine g_iload_n C dX9_ownValue_38 rfl 2 rfl ?_
    refine g_iconst (v := (1 : Int32)) C dX9_ownValue_39 (by decide) ?_
    refine g_icmp_ne (tgt := 52) C dX9_ownValue_40 (by decide) (fun c40 => ?_) (fun c40 => ?_)
    · replace h := (if_neg c40).symm.trans h
      refine g_iload_n C dX9_ownValue_52 rfl 2 rfl ?_
      refine g_iconst (v := (2 : Int32)) C dX9_ownValue_53 (by decide) ?_
      refine g_icmp_ne (tgt := 66) C dX9_ownValue_54 (by decide) (fun c54 => ?_) (fun c54 => ?_)
      · replace h := (if_neg c54).symm.trans h
        refine g_aload_n C dX9_ownValue_66 rfl 0 rfl ?_
        refine g_get (k := 40) (i := 0) (ref := "TradeLineModel") (v := .ref (ρ.2.2.2 (40 + 17) 0)) C rfl (lvY0 hρ) rfl rfl inGX9 17 (by decide) gw_1346 (fun _ h => h) rfl dX9_ownValue_67 ?_
        refine g_iload_n C dX9_ownValue_70 rfl 1 rfl ?_
        obtain ⟨g2, h⟩ := of_guard h
        refine q_iald C hρ (j := 17) (N := 16384) (List.mem_of_getElem? (i := 14) rfl) rfl rfl g2 dX9_ownValue_71 ?_
        exact g_iret C hr rfl hz ⟨rfl, rfl, fun _ => rfl, fun _ => rfl⟩ ⟨Option.some.inj h, rfl⟩ (fun j x h => by simp at h) dX9_ownValue_72
      · replace h := (if_pos c54).symm.trans h
        refine g_aload_n C dX9_ownValue_57 rfl 0 rfl ?_
        refine g_get (k := 40) (i := 0) (ref := "TradeLineModel") (v := .ref (ρ.2.2.2 (40 + 16) 0)) C rfl (lvY0 hρ) rfl rfl inGX9 16 (by decide) gw_1345 (fun _ h => h) rfl dX9_ownValue_58 ?_
        refine g_iload_n C dX9_ownValue_61 rfl 1 rfl ?_
        obtain ⟨g3, h⟩ := of_guard h
        refine q_iald C hρ (j := 16) (N := 16384) (List.mem_of_getElem? (i := 13) rfl) rfl rfl g3 dX9_ownValue_62 ?_
        refine g_goto (tgt := 72) C dX9_ownValue_63 (by decide) ?_
        exact g_iret C hr rfl hz ⟨rfl, rfl, fun _ => rfl, fun _ => rfl⟩ ⟨Option.some.inj h, rfl⟩ (fun j x h => by simp at h) dX9_ownValue_72
    · replace h := (if_pos c40).symm.trans h
      refine g_aload_n C dX9_ownValue_43 rfl 0 rfl ?_
      refine g_get (k := 40) (i := 0) (ref := "TradeLineModel") (v := .ref (ρ.2.2.2 (40 + 15) 0)) C rfl (lvY0 hρ) rfl rfl inGX9 15 (by decide) gw_1344 (fun _ h => h) rfl dX9_ownValue_44 ?_
      refine g_iload_n C dX9_ownValue_47 rfl 1 rfl ?_
      obtain ⟨g4, h⟩ := of_guard h
      refine q_iald C hρ (j := 15) (N := 16384) (List.mem_of_getElem? (i := 12) rfl) rfl rfl g4 dX9_ownValue_48 ?_
      refine g_goto (tgt := 72) C dX9_ownValue_49 (by decide) ?_
      exact g_iret C hr rfl hz ⟨rfl, rfl, fun _ => rfl, fun _ => rfl⟩ ⟨Option.some.inj h, rfl⟩ (fun j x h => by simp at h) dX9_ownValue_72
  · replace h := (if_pos c26).symm.trans h
    refine g_aload_n C dX9_ownValue_29 rfl 0 rfl ?_
    refine g_get (k := 40) (i := 0) (ref := "TradeLineModel") (v := .ref (ρ.2.2.2 (40 + 14) 0)) C rfl (lvY0 hρ) rfl rfl inGX9 14 (by decide) gw_1343 (fun _ h => h) rfl dX9_ownValue_30 ?_
    refine g_iload_n C dX9_ownValue_33 rfl 1 rfl ?_
    obtain ⟨g5, h⟩ := of_guard h
    refine q_iald C hρ (j := 14) (N := 16384) (List.mem_of_getElem? (i := 11) rfl) rfl rfl g5 dX9_ownValue_34 ?_
    refine g_goto (tgt := 72) C dX9_ownValue_35 (by decide) ?_
    exact g_iret C hr rfl hz ⟨rfl, rfl, fun _ => rfl, fun _ => rfl⟩ ⟨Option.some.inj h, rfl⟩ (fun j x h => by simp at h) dX9_ownValue_72
noncomputable def f_X9_ownValue  (w : Nat) (a : AS) (x1 x2 : Int32) : Option (Int32) := bif ixB x1 16384 then (if (a 11 x1.toNatClampNeg) = (8 : Int32) then ((if x2 ≤ (1 : Int32) then (b_X9_ownValue_25  w a x1 x2) else ((f_X9_valueOfReport w a x1 (x2 - (2 : Int32))).bind (fun v6 => some v6)))) else (b_X9_ownValue_25  w a x1 x2)) else none
set_option maxHeartbeats 4000000 in
set_option maxRecDepth 100000 in
theorem lb_X9_ownValue_0 {p : Program} {l : Launch} {e : Env} {s : State} {m : MethodId} {args : Array Value} {below : List Frame} {meth : Method} {c : Code} {D : va_G} {E : Nat → ClassId} {sz : Nat} {M : Nat → Nat → Nat → Int32} {a : AS} {ρ : YR} {w : Nat} {r0 : Int32} (C : cx p s m args meth c D E (Aof (mx M a, ρ) [] s.heap.size) cX9_ownValue 3 "TradeLineModel") (hr : meth.sig.returnType = (some .int)) (hz : s.heap.size = sz) (hρ : rsh ρ) {x1 x2 : Int32}   (h : f_X9_ownValue  w a x1 x2 = some r0) : G p l e ({ frames := 1, cells := 0, slots := 0, locals := 23 } : Room) s m args below meth c D E (Aof (mx M a, ρ) [] s.heap.size) 3 (MQ below (cQ D E sz (mx M a, ρ) [] (pI (fun r u => r = r0 ∧ u = ((mx M a, ρ), [])))) args s 0 0 (Aof (mx M a, ρ) [] s.heap.size)) (mx M a, ρ) [] 0 0 0 [(0, .ref (ρ.2.2.2 40 0)), (1, .int x1), (2, .int x2)] [] := by
  unfold f_X9_ownValue at h
  refine g_aload_n C dX9_ownValue_0 rfl 0 rfl ?_
  refine g_get (k := 40) (i := 0) (ref := "TradeLineModel") (v := .ref (ρ.2.2.2 (40 + 11) 0)) C rfl (lvY0 hρ) rfl rfl inGX9 11 (by decide) gw_1340 (fun _ h => h) rfl dX9_ownValue_1 ?_
  refine g_iload_n C dX9_ownValue_4 rfl 1 rfl ?_
  obtain ⟨g1, h⟩ := of_guard h
  refine q_iald C hρ (j := 11) (N := 16384) (List.mem_of_getElem? (i := 8) rfl) rfl rfl g1 dX9_ownValue_5 ?_
  refine g_bipush (v := (8 : Int32)) C dX9_ownValue_6 (by decide) ?_
  refine g_icmp_ne (tgt := 25) C dX9_ownValue_8 (by decide) (fun c8 => ?_) (fun c8 => ?_)
  · replace h := (if_neg c8).symm.trans h
    refine g_lv [0, 1, 2] rfl ?_
    exact lb_X9_ownValue_25 C hr hz hρ  h
  · replace h := (if_pos c8).symm.trans h
    refine g_iload_n C dX9_ownValue_11 rfl 2 rfl ?_
    refine g_iconst (v := (1 : Int32)) C dX9_ownValue_12 (by decide) ?_
    refine g_icmp_le (tgt := 25) C dX9_ownValue_13 (by decide) (fun c13 => ?_) (fun c13 => ?_)
    · replace h := (if_pos c13).symm.trans h
      refine g_lv [0, 1, 2] rfl ?_
      exact lb_X9_ownValue_25 C hr hz hρ  h
    · replace h := (if_neg c13).symm.trans h
      refine g_aload_n C dX9_ownValue_16 rfl 0 rfl ?_
      refine g_iload_n C dX9_ownValue_17 rfl 1 rfl ?_
      refine g_iload_n C dX9_ownValue_18 rfl 2 rfl ?_
      refine g_iconst (v := (2 : Int32)) C dX9_ownValue_19 (by decide) ?_
      refine g_isub C dX9_ownValue_20 ?_
      obtain ⟨v6, hv6, h⟩ := bind_of h
      refine g_cVi (n := 2) (exc := []) (exr := []) C [_, _] _ rfl rfl [] [] rfl rfl rfl rfl (fun _ h => absurd h (by simp)) (fun _ h => absurd h (by simp)) (fun _ h => absurd h (by simp)) (fun sz => k_X9_valueOfReport l M ρ hρ w _ _ _ _ hv6 D E sz) rfl gw_1663 gw_9 gw_1660 gw_1662 gs_73 ⟨by decide +kernel, by decide +kernel, by decide +kernel⟩ ⟨rfl, rfl⟩ ⟨Nat.le_of_ble_eq_true rfl, Nat.le_of_ble_eq_true rfl⟩ (rcvT (lvY0 hρ) rfl rfl rfl) (Nat.le_of_ble_eq_true rfl) dX9_ownValue_21 ⟨by decide, by decide⟩ (fun r u hp hx => ?_)
      obtain ⟨er, rfl⟩ := hp
      rw [er]
      try dsimp only [List.append_nil]
      exact g_iret C hr rfl hz ⟨rfl, rfl, fun _ => rfl, fun _ => rfl⟩ ⟨Option.some.inj h, rfl⟩ (fun j x h => by simp at h) dX9_ownValue_24
theorem k_X9_ownValue (l : Launch) (M : Nat → Nat → Nat → Int32) (ρ : YR) (hρ : rsh ρ) (w : Nat) (a : AS) (x1 x2 : Int32) (r0 : Int32) (h : f_X9_ownValue w a x1 x2 = some r0) : ∀ D E sz, Met l yX9_ownValue gwX9_ownValue ({ frames := 1, cells := 0, slots := 0, locals := 23 } : Room) (cP D E sz (mx M a, ρ) [] [.ref (ρ.2.2.2 40 0), .int x1, .int x2]) (cQ D E sz (mx M a, ρ) [] (pI (fun r u => r = r0 ∧ u = ((mx M a, ρ), [])))) (0) (0) (Aof (mx M a, ρ) [] sz) := by
  intro D E sz
  refine g_of (cc := cX9_ownValue) (maxL := 3) (ret := (some .int)) (own := "TradeLineModel") (by decide) rfl rfl (Nat.le_of_ble_eq_true rfl) ?_
  intro p e s m args below meth c C hr hin hz ha hwr
  refine g_lv [0, 1, 2] rfl ?_
  exact lb_X9_ownValue_0 C hr hz hρ h
noncomputable def f_X9_tagOf  (w : Nat) (a : AS) (x1 x2 : Int32) : Option (Int32) := (if x2 = (0 : Int32) then (some (35 : Int32)) else ((if x2 = (1 : Int32) then (some (34 : Int32)) else ((f_X9_manyOwn w a x1).bind (fun v1 => (if x2 = (v1 + (2 : Int32)) then (some (10 : Int32)) else ((f_X9_ownTag w a x1 (x2 - (2 : Int32))).bind (fun v2 => some v2))))))))
set_option maxHeartbeats 4000000 in
set_option maxRecDepth 100000 in
theorem lb_X9_tagOf_0 {p : Program} {l : Launch} {e : Env} {s : State} {m : MethodId} {args : Array Value} {below : List Frame} {meth : Method} {c : Code} {D : va_G} {E : Nat → ClassId} {sz : Nat} {M : Nat → Nat → Nat → Int32} {a : AS} {ρ : YR} {w : Nat} {r0 : Int32} (C : cx p s m args meth c D E (Aof (mx M a, ρ) [] s.heap.size) cX9_tagOf 3 "TradeLineModel") (hr : meth.sig.returnType = (some .int)) (hz : s.heap.size = sz) (hρ : rsh ρ) {x1 x2 : Int32}   (h : f_X9_tagOf  w a x1 x2 = some r0) : G p l e ({ frames := 2, cells := 0, slots := 0, locals := 45 } : Room) s m args below meth c D E (Aof (mx M a, ρ) [] s.heap.size) 3 (MQ below (cQ D E sz (mx M a, ρ) [] (pI (fun r u => r = r0 ∧ u = ((mx M a, ρ), [])))) args s 0 0 (Aof (mx M a, ρ) [] s.heap.size)) (mx M a, ρ) [] 0 0 0 [(0, .ref (ρ.2.2.2 40 0)), (1, .int x1), (2, .int x2)] [] := by
  unfold f_X9_tagOf at h
  refine g_iload_n C dX9_tagOf_0 rfl 2 rfl ?_
  refine g_if_ne (tgt := 9) C dX9_tagOf_1 (by decide) (fun c1 => ?_) (fun c1 => ?_)
  · replace h := (if_neg c1).symm.trans h
    refine g_iload_n C dX9_tagOf_9 rfl 2 rfl ?_
    refine g_iconst (v := (1 : Int32)) C dX9_tagOf_10 (by decide) ?_
    refine g_icmp_ne (tgt := 19) C dX9_tagOf_11 (by decide) (fun c11 => ?_) (fun c11 => ?_)
    · replace h := (if_neg c11).symm.trans h
      refine g_iload_n C dX9_tagOf_19 rfl 2 rfl ?_
      refine g_aload_n C dX9_tagOf_20 rfl 0 rfl ?_
      refine g_iload_n C dX9_tagOf_21 rfl 1 rfl ?_
      obtain ⟨v1, hv1, h⟩ := bind_of h
      refine g_cVi (n := 1) (exc := []) (exr := []) C [_] _ rfl rfl [] [] rfl rfl rfl rfl (fun _ h => absurd h (by simp)) (fun _ h => absurd h (by simp)) (fun _ h => absurd h (by simp)) (fun sz => k_X9_manyOwn l M ρ hρ w _ _ _ hv1 D E sz) rfl gw_1627 gw_9 gw_1624 gw_1626 gs_66 ⟨by decide +kernel, by decide +kernel, by decide +kernel⟩ ⟨rfl, rfl⟩ ⟨Nat.le_of_ble_eq_true rfl, Nat.le_of_ble_eq_true rfl⟩ (rcvT (lvY0 hρ) rfl rfl rfl) (Nat.le_of_ble_eq_true rfl) dX9_tagOf_22 ⟨by decide, by decide⟩ (fun r u hp hx => ?_)
      obtain ⟨er, rfl⟩ := hp
      rw [er]
      try dsimp only [List.append_nil]
      refine g_iconst (v := (2 : Int32)) C dX9_tagOf_25 (by decide) ?_
      refine g_iadd C dX9_tagOf_26 ?_
      refine g_icmp_ne (tgt := 35) C dX9_tagOf_27 (by decide) (fun c27 => ?_) (fun c27 => ?_)
      · replace h := (if_neg c27).symm.trans h
        refine g_aload_n C dX9_tagOf_35 rfl 0 rfl ?_
        refine g_iload_n C dX9_tagOf_36 rfl 1 rfl ?_
        refine g_iload_n C dX9_tagOf_37 rfl 2 rfl ?_
        refine g_iconst (v := (2 : Int32)) C dX9_tagOf_38 (by decide) ?_
        refine g_isub C dX9_tagOf_39 ?_
        obtain ⟨v2, hv2, h⟩ := bind_of h
        refine g_cVi (n := 2) (exc := []) (exr := []) C [_, _] _ rfl rfl [] [] rfl rfl rfl rfl (fun _ h => absurd h (by simp)) (fun _ h => absurd h (by simp)) (fun _ h => absurd h (by simp)) (fun sz => k_X9_ownTag l M ρ hρ w _ _ _ _ hv2 D E sz) rfl gw_1643 gw_9 gw_1640 gw_1642 gs_69 ⟨by decide +kernel, by decide +kernel, by decide +kernel⟩ ⟨rfl, rfl⟩ ⟨Nat.le_of_ble_eq_true rfl, Nat.le_of_ble_eq_true rfl⟩ (rcvT (lvY0 hρ) rfl rfl rfl) (Nat.le_of_ble_eq_true rfl) dX9_tagOf_40 ⟨by decide, by decide⟩ (fun r u hp hx => ?_)
        obtain ⟨er, rfl⟩ := hp
        rw [er]
        try dsimp only [List.append_nil]
        exact g_iret C hr rfl hz ⟨rfl, rfl, fun _ => rfl, fun _ => rfl⟩ ⟨Option.some.inj h, rfl⟩ (fun j x h => by simp at h) dX9_tagOf_43
      · replace h := (if_pos c27).symm.trans h
        refine g_bipush (v := (10 : Int32)) C dX9_tagOf_30 (by decide) ?_
        refine g_goto (tgt := 43) C dX9_tagOf_32 (by decide) ?_
        exact g_iret C hr rfl hz ⟨rfl, rfl, fun _ => rfl, fun _ => rfl⟩ ⟨Option.some.inj h, rfl⟩ (fun j x h => by simp at h) dX9_tagOf_43
    · replace h := (if_pos c11).symm.trans h
      refine g_bipush (v := (34 : Int32)) C dX9_tagOf_14 (by decide) ?_
      refine g_goto (tgt := 43) C dX9_tagOf_16 (by decide) ?_
      exact g_iret C hr rfl hz ⟨rfl, rfl, fun _ => rfl, fun _ => rfl⟩ ⟨Option.some.inj h, rfl⟩ (fun j x h => by simp at h) dX9_tagOf_43
  · replace h := (if_pos c1).symm.trans h
    refine g_bipush (v := (35 : Int32)) C dX9_tagOf_4 (by decide) ?_
    refine g_goto (tgt := 43) C dX9_tagOf_6 (by decide) ?_
    exact g_iret C hr rfl hz ⟨rfl, rfl, fun _ => rfl, fun _ => rfl⟩ ⟨Option.some.inj h, rfl⟩ (fun j x h => by simp at h) dX9_tagOf_43
theorem k_X9_tagOf (l : Launch) (M : Nat → Nat → Nat → Int32) (ρ : YR) (hρ : rsh ρ) (w : Nat) (a : AS) (x1 x2 : Int32) (r0 : Int32) (h : f_X9_tagOf w a x1 x2 = some r0) : ∀ D E sz, Met l yX9_tagOf gwX9_tagOf ({ frames := 2, cells := 0, slots := 0, locals := 45 } : Room) (cP D E sz (mx M a, ρ) [] [.ref (ρ.2.2.2 40 0), .int x1, .int x2]) (cQ D E sz (mx M a, ρ) [] (pI (fun r u => r = r0 ∧ u = ((mx M a, ρ), [])))) (0) (0) (Aof (mx M a, ρ) [] sz) := by
  intro D E sz
  refine g_of (cc := cX9_tagOf) (maxL := 3) (ret := (some .int)) (own := "TradeLineModel") (by decide) rfl rfl (Nat.le_of_ble_eq_true rfl) ?_
  intro p e s m args below meth c C hr hin hz ha hwr
  refine g_lv [0, 1, 2] rfl ?_
  exact lb_X9_tagOf_0 C hr hz hρ h
noncomputable def f_X9_valueOf  (w : Nat) (a : AS) (x1 x2 x3 : Int32) : Option (Int32) := (if x3 = (0 : Int32) then (bif ixB x1 16384 then some (a 11 x1.toNatClampNeg) else none) else ((if x3 = (1 : Int32) then (some x2) else ((f_X9_ownValue w a x1 (x3 - (2 : Int32))).bind (fun v1 => some v1)))))
set_option maxHeartbeats 4000000 in
set_option maxRecDepth 100000 in
theorem lb_X9_valueOf_0 {p : Program} {l : Launch} {e : Env} {s : State} {m : MethodId} {args : Array Value} {below : List Frame} {meth : Method} {c : Code} {D : va_G} {E : Nat → ClassId} {sz : Nat} {M : Nat → Nat → Nat → Int32} {a : AS} {ρ : YR} {w : Nat} {r0 : Int32} (C : cx p s m args meth c D E (Aof (mx M a, ρ) [] s.heap.size) cX9_valueOf 4 "TradeLineModel") (hr : meth.sig.returnType = (some .int)) (hz : s.heap.size = sz) (hρ : rsh ρ) {x1 x2 x3 : Int32}   (h : f_X9_valueOf  w a x1 x2 x3 = some r0) : G p l e ({ frames := 2, cells := 0, slots := 0, locals := 45 } : Room) s m args below meth c D E (Aof (mx M a, ρ) [] s.heap.size) 4 (MQ below (cQ D E sz (mx M a, ρ) [] (pI (fun r u => r = r0 ∧ u = ((mx M a, ρ), [])))) args s 0 0 (Aof (mx M a, ρ) [] s.heap.size)) (mx M a, ρ) [] 0 0 0 [(0, .ref (ρ.2.2.2 40 0)), (1, .int x1), (2, .int x2), (3, .int x3)] [] := by
  unfold f_X9_valueOf at h
  refine g_iload_n C dX9_valueOf_0 rfl 3 rfl ?_
  refine g_if_ne (tgt := 13) C dX9_valueOf_1 (by decide) (fun c1 => ?_) (fun c1 => ?_)
  · replace h := (if_neg c1).symm.trans h
    refine g_iload_n C dX9_valueOf_13 rfl 3 rfl ?_
    refine g_iconst (v := (1 : Int32)) C dX9_valueOf_14 (by decide) ?_
    refine g_icmp_ne (tgt := 22) C dX9_valueOf_15 (by decide) (fun c15 => ?_) (fun c15 => ?_)
    · replace h := (if_neg c15).symm.trans h
      refine g_aload_n C dX9_valueOf_22 rfl 0 rfl ?_
      refine g_iload_n C dX9_valueOf_23 rfl 1 rfl ?_
      refine g_iload_n C dX9_valueOf_24 rfl 3 rfl ?_
      refine g_iconst (v := (2 : Int32)) C dX9_valueOf_25 (by decide) ?_
      refine g_isub C dX9_valueOf_26 ?_
      obtain ⟨v1, hv1, h⟩ := bind_of h
      refine g_cVi (n := 2) (exc := []) (exr := []) C [_, _] _ rfl rfl [] [] rfl rfl rfl rfl (fun _ h => absurd h (by simp)) (fun _ h => absurd h (by simp)) (fun _ h => absurd h (by simp)) (fun sz => k_X9_ownValue l M ρ hρ w _ _ _ _ hv1 D E sz) rfl gw_1659 gw_9 gw_1656 gw_1658 gs_72 ⟨by decide +kernel, by decide +kernel, by decide +kernel⟩ ⟨rfl, rfl⟩ ⟨Nat.le_of_ble_eq_true rfl, Nat.le_of_ble_eq_true rfl⟩ (rcvT (lvY0 hρ) rfl rfl rfl) (Nat.le_of_ble_eq_true rfl) dX9_valueOf_27 ⟨by decide, by decide⟩ (fun r u hp hx => ?_)
      obtain ⟨er, rfl⟩ := hp
      rw [er]
      try dsimp only [List.append_nil]
      exact g_iret C hr rfl hz ⟨rfl, rfl, fun _ => rfl, fun _ => rfl⟩ ⟨Option.some.inj h, rfl⟩ (fun j x h => by simp at h) dX9_valueOf_30
    · replace h := (if_pos c15).symm.trans h
      refine g_iload_n C dX9_valueOf_18 rfl 2 rfl ?_
      refine g_goto (tgt := 30) C dX9_valueOf_19 (by decide) ?_
      exact g_iret C hr rfl hz ⟨rfl, rfl, fun _ => rfl, fun _ => rfl⟩ ⟨Option.some.inj h, rfl⟩ (fun j x h => by simp at h) dX9_valueOf_30
  · replace h := (if_pos c1).symm.trans h
    refine g_aload_n C dX9_valueOf_4 rfl 0 rfl ?_
    refine g_get (k := 40) (i := 0) (ref := "TradeLineModel") (v := .ref (ρ.2.2.2 (40 + 11) 0)) C rfl (lvY0 hρ) rfl rfl inGX9 11 (by decide) gw_1340 (fun _ h => h) rfl dX9_valueOf_5 ?_
    refine g_iload_n C dX9_valueOf_8 rfl 1 rfl ?_
    obtain ⟨g2, h⟩ := of_guard h
    refine q_iald C hρ (j := 11) (N := 16384) (List.mem_of_getElem? (i := 8) rfl) rfl rfl g2 dX9_valueOf_9 ?_
    refine g_goto (tgt := 30) C dX9_valueOf_10 (by decide) ?_
    exact g_iret C hr rfl hz ⟨rfl, rfl, fun _ => rfl, fun _ => rfl⟩ ⟨Option.some.inj h, rfl⟩ (fun j x h => by simp at h) dX9_valueOf_30
theorem k_X9_valueOf (l : Launch) (M : Nat → Nat → Nat → Int32) (ρ : YR) (hρ : rsh ρ) (w : Nat) (a : AS) (x1 x2 x3 : Int32) (r0 : Int32) (h : f_X9_valueOf w a x1 x2 x3 = some r0) : ∀ D E sz, Met l yX9_valueOf gwX9_valueOf ({ frames := 2, cells := 0, slots := 0, locals := 45 } : Room) (cP D E sz (mx M a, ρ) [] [.ref (ρ.2.2.2 40 0), .int x1, .int x2, .int x3]) (cQ D E sz (mx M a, ρ) [] (pI (fun r u => r = r0 ∧ u = ((mx M a, ρ), [])))) (0) (0) (Aof (mx M a, ρ) [] sz) := by
  intro D E sz
  refine g_of (cc := cX9_valueOf) (maxL := 4) (ret := (some .int)) (own := "TradeLineModel") (by decide) rfl rfl (Nat.le_of_ble_eq_true rfl) ?_
  intro p e s m args below meth c C hr hin hz ha hwr
  refine g_lv [0, 1, 2, 3] rfl ?_
  exact lb_X9_valueOf_0 C hr hz hρ h
noncomputable def f_X9_isMessage  (w : Nat) (a : AS) (x1 x2 : Int32) : Option (Int32) := (f_X9_isSide w a x1).bind (fun v1 => (if v1 = (0 : Int32) then (some (0 : Int32)) else (bif ixB x1 2 then (f_X9_in w a x2 (1 : Int32) (a 4 x1.toNatClampNeg)).bind (fun v3 => (if v3 = (0 : Int32) then (some (0 : Int32)) else (some (1 : Int32)))) else none)))
set_option maxHeartbeats 4000000 in
set_option maxRecDepth 100000 in
theorem lb_X9_isMessage_0 {p : Program} {l : Launch} {e : Env} {s : State} {m : MethodId} {args : Array Value} {below : List Frame} {meth : Method} {c : Code} {D : va_G} {E : Nat → ClassId} {sz : Nat} {M : Nat → Nat → Nat → Int32} {a : AS} {ρ : YR} {w : Nat} {r0 : Int32} (C : cx p s m args meth c D E (Aof (mx M a, ρ) [] s.heap.size) cX9_isMessage 3 "TradeLineModel") (hr : meth.sig.returnType = (some .boolean)) (hz : s.heap.size = sz) (hρ : rsh ρ) {x1 x2 : Int32}   (h : f_X9_isMessage  w a x1 x2 = some r0) : G p l e ({ frames := 2, cells := 0, slots := 0, locals := 42 } : Room) s m args below meth c D E (Aof (mx M a, ρ) [] s.heap.size) 3 (MQ below (cQ D E sz (mx M a, ρ) [] (pI (fun r u => r = r0 ∧ u = ((mx M a, ρ), [])))) args s 0 0 (Aof (mx M a, ρ) [] s.heap.size)) (mx M a, ρ) [] 0 0 0 [(0, .ref (ρ.2.2.2 40 0)), (1, .int x1), (2, .int x2)] [] := by
  unfold f_X9_isMessage at h
  refine g_iload_n C dX9_isMessage_0 rfl 1 rfl ?_
  obtain ⟨v1, hv1, h⟩ := bind_of h
  refine g_cSi (n := 1) (exc := []) (exr := []) C [_] _ rfl rfl [] [] rfl rfl rfl rfl (fun _ h => absurd h (by simp)) (fun _ h => absurd h (by simp)) (fun _ h => absurd h (by simp)) (fun sz => k_X9_isSide l M ρ hρ w _ _ _ hv1 D E sz) rfl gw_1504 gw_9 gw_1502 gw_1503 ⟨by decide +kernel, by decide +kernel, by decide +kernel⟩ ⟨rfl, rfl⟩ ⟨Nat.le_of_ble_eq_true rfl, Nat.le_of_ble_eq_true rfl⟩ (Nat.le_of_ble_eq_true rfl) dX9_isMessage_1 ⟨by decide, by decide⟩ (fun r u hp hx => ?_)
  obtain ⟨er, rfl⟩ := hp
  rw [er]
  try dsimp only [List.append_nil]
  refine g_if_eq (tgt := 25) C dX9_isMessage_4 (by decide) (fun c4 => ?_) (fun c4 => ?_)
  · replace h := (if_pos c4).symm.trans h
    refine g_iconst (v := (0 : Int32)) C dX9_isMessage_25 (by decide) ?_
    exact g_iret C hr rfl hz ⟨rfl, rfl, fun _ => rfl, fun _ => rfl⟩ ⟨Option.some.inj h, rfl⟩ (fun j x h => by simp at h) dX9_isMessage_26
  · replace h := (if_neg c4).symm.trans h
    refine g_iload_n C dX9_isMessage_7 rfl 2 rfl ?_
    refine g_iconst (v := (1 : Int32)) C dX9_isMessage_8 (by decide) ?_
    refine g_aload_n C dX9_isMessage_9 rfl 0 rfl ?_
    refine g_get (k := 40) (i := 0) (ref := "TradeLineModel") (v := .ref (ρ.2.2.2 (40 + 4) 0)) C rfl (lvY0 hρ) rfl rfl inGX9 4 (by decide) gw_1333 (fun _ h => h) rfl dX9_isMessage_10 ?_
    refine g_iload_n C dX9_isMessage_13 rfl 1 rfl ?_
    obtain ⟨g2, h⟩ := of_guard h
    refine q_iald C hρ (j := 4) (N := 2) (List.mem_of_getElem? (i := 1) rfl) rfl rfl g2 dX9_isMessage_14 ?_
    obtain ⟨v3, hv3, h⟩ := bind_of h
    refine g_cSi (n := 3) (exc := []) (exr := []) C [_, _, _] _ rfl rfl [] [] rfl rfl rfl rfl (fun _ h => absurd h (by simp)) (fun _ h => absurd h (by simp)) (fun _ h => absurd h (by simp)) (fun sz => k_X9_in l M ρ hρ w _ _ _ _ _ hv3 D E sz) rfl gw_1507 gw_9 gw_1505 gw_1506 ⟨by decide +kernel, by decide +kernel, by decide +kernel⟩ ⟨rfl, rfl⟩ ⟨Nat.le_of_ble_eq_true rfl, Nat.le_of_ble_eq_true rfl⟩ (Nat.le_of_ble_eq_true rfl) dX9_isMessage_15 ⟨by decide, by decide⟩ (fun r u hp hx => ?_)
    obtain ⟨er, rfl⟩ := hp
    rw [er]
    try dsimp only [List.append_nil]
    refine g_if_eq (tgt := 25) C dX9_isMessage_18 (by decide) (fun c18 => ?_) (fun c18 => ?_)
    · replace h := (if_pos c18).symm.trans h
      refine g_iconst (v := (0 : Int32)) C dX9_isMessage_25 (by decide) ?_
      exact g_iret C hr rfl hz ⟨rfl, rfl, fun _ => rfl, fun _ => rfl⟩ ⟨Option.some.inj h, rfl⟩ (fun j x h => by simp at h) dX9_isMessage_26
    · replace h := (if_neg c18).symm.trans h
      refine g_iconst (v := (1 : Int32)) C dX9_isMessage_21 (by decide) ?_
      refine g_goto (tgt := 26) C dX9_isMessage_22 (by decide) ?_
      exact g_iret C hr rfl hz ⟨rfl, rfl, fun _ => rfl, fun _ => rfl⟩ ⟨Option.some.inj h, rfl⟩ (fun j x h => by simp at h) dX9_isMessage_26
theorem k_X9_isMessage (l : Launch) (M : Nat → Nat → Nat → Int32) (ρ : YR) (hρ : rsh ρ) (w : Nat) (a : AS) (x1 x2 : Int32) (r0 : Int32) (h : f_X9_isMessage w a x1 x2 = some r0) : ∀ D E sz, Met l yX9_isMessage gwX9_isMessage ({ frames := 2, cells := 0, slots := 0, locals := 42 } : Room) (cP D E sz (mx M a, ρ) [] [.ref (ρ.2.2.2 40 0), .int x1, .int x2]) (cQ D E sz (mx M a, ρ) [] (pI (fun r u => r = r0 ∧ u = ((mx M a, ρ), [])))) (0) (0) (Aof (mx M a, ρ) [] sz) := by
  intro D E sz
  refine g_of (cc := cX9_isMessage) (maxL := 3) (ret := (some .boolean)) (own := "TradeLineModel") (by decide) rfl rfl (Nat.le_of_ble_eq_true rfl) ?_
  intro p e s m args below meth c C hr hin hz ha hwr
  refine g_lv [0, 1, 2] rfl ?_
  exact lb_X9_isMessage_0 C hr hz hρ h
noncomputable def b_X9_fields_15  (w : Nat) (a : AS) (x1 x2 s0 : Int32) : Option (AS × Int32) := yl (up2 a 0 0 s0) (fun a2 => (if (a2 0 0) ≤ (0 : Int32) then ((f_X9_manyOwn w a2 (((8192 : Int32) * x1) + x2)).bind (fun v3 => some (a2, (v3 + (3 : Int32))))) else (some (a2, (0 : Int32)))))
set_option maxHeartbeats 4000000 in
set_option maxRecDepth 100000 in
theorem lb_X9_fields_15 {p : Program} {l : Launch} {e : Env} {s : State} {m : MethodId} {args : Array Value} {below : List Frame} {meth : Method} {c : Code} {D : va_G} {E : Nat → ClassId} {sz : Nat} {M : Nat → Nat → Nat → Int32} {a0 : AS} {ρ : YR} {w : Nat} {r0 : AS × Int32} (C : cx p s m args meth c D E (Aof (mx M a0, ρ) [] s.heap.size) cX9_fields 3 "TradeLineModel") (hr : meth.sig.returnType = (some .int)) (hz : s.heap.size = sz) (hρ : rsh ρ) {a : AS} {x1 x2 s0 : Int32}   (h : b_X9_fields_15  w a x1 x2 s0 = some r0) : G p l e ({ frames := 3, cells := 0, slots := 0, locals := 64 } : Room) s m args below meth c D E (Aof (mx M a0, ρ) [] s.heap.size) 3 (MQ below (cQ D E sz (mx M a0, ρ) [] (pI (fun r u => r = r0.2 ∧ u = ((mx M r0.1, ρ), [])))) args s 0 0 (Aof (mx M a0, ρ) [] s.heap.size)) (mx M a, ρ) [] 0 0 15 [(0, .ref (ρ.2.2.2 40 0)), (1, .int x1), (2, .int x2)] [.int s0, .ref (ρ.2.2.2 40 0)] := by
  unfold b_X9_fields_15 at h
  refine q_put C hρ (j := 0) (by decide) gw_1329 rfl rfl (tyX9_ok 0 (by decide)) rfl rfl (by simp [fvs, up1]) dX9_fields_15 (fun a2 ea2 => ?_)
  replace h := yl_of h ea2
  refine g_aload_n C dX9_fields_18 rfl 0 rfl ?_
  refine g_get (k := 40) (i := 0) (ref := "TradeLineModel") (v := .int (a2 0 0)) C rfl (lvY0 hρ) rfl rfl inGX9 0 (by decide) gw_1329 (fun _ h => h) rfl dX9_fields_19 ?_
  refine g_if_le (tgt := 29) C dX9_fields_22 (by decide) (fun c22 => ?_) (fun c22 => ?_)
  · replace h := (if_pos c22).symm.trans h
    refine g_aload_n C dX9_fields_29 rfl 0 rfl ?_
    refine g_sipush (v := (8192 : Int32)) C dX9_fields_30 (by decide) ?_
    refine g_iload_n C dX9_fields_33 rfl 1 rfl ?_
    refine g_imul C dX9_fields_34 ?_
    refine g_iload_n C dX9_fields_35 rfl 2 rfl ?_
    refine g_iadd C dX9_fields_36 ?_
    obtain ⟨v3, hv3, h⟩ := bind_of h
    refine g_cVi (n := 1) (exc := []) (exr := []) C [_] _ rfl rfl [] [] rfl rfl rfl rfl (fun _ h => absurd h (by simp)) (fun _ h => absurd h (by simp)) (fun _ h => absurd h (by simp)) (fun sz => k_X9_manyOwn l M ρ hρ w _ _ _ hv3 D E sz) rfl gw_1627 gw_9 gw_1624 gw_1626 gs_66 ⟨by decide +kernel, by decide +kernel, by decide +kernel⟩ ⟨rfl, rfl⟩ ⟨Nat.le_of_ble_eq_true rfl, Nat.le_of_ble_eq_true rfl⟩ (rcvT (lvY0 hρ) rfl rfl rfl) (Nat.le_of_ble_eq_true rfl) dX9_fields_37 ⟨by decide, by decide⟩ (fun r u hp hx => ?_)
    obtain ⟨er, rfl⟩ := hp
    rw [er]
    try dsimp only [List.append_nil]
    refine g_iconst (v := (3 : Int32)) C dX9_fields_40 (by decide) ?_
    refine g_iadd C dX9_fields_41 ?_
    obtain rfl := Option.some.inj h
    exact g_iret C hr rfl hz ⟨rfl, rfl, fun _ => rfl, fun _ => rfl⟩ ⟨rfl, rfl⟩ (fun j x h => by simp at h) dX9_fields_42
  · replace h := (if_neg c22).symm.trans h
    refine g_iconst (v := (0 : Int32)) C dX9_fields_25 (by decide) ?_
    refine g_goto (tgt := 42) C dX9_fields_26 (by decide) ?_
    obtain rfl := Option.some.inj h
    exact g_iret C hr rfl hz ⟨rfl, rfl, fun _ => rfl, fun _ => rfl⟩ ⟨rfl, rfl⟩ (fun j x h => by simp at h) dX9_fields_42
noncomputable def f_X9_fields  (w : Nat) (a : AS) (x1 x2 : Int32) : Option (AS × Int32) := (f_X9_isMessage w a x1 x2).bind (fun v1 => (if v1 = (0 : Int32) then (b_X9_fields_15  w a x1 x2 (1 : Int32)) else (b_X9_fields_15  w a x1 x2 (0 : Int32))))
set_option maxHeartbeats 4000000 in
set_option maxRecDepth 100000 in
theorem lb_X9_fields_0 {p : Program} {l : Launch} {e : Env} {s : State} {m : MethodId} {args : Array Value} {below : List Frame} {meth : Method} {c : Code} {D : va_G} {E : Nat → ClassId} {sz : Nat} {M : Nat → Nat → Nat → Int32} {a0 : AS} {ρ : YR} {w : Nat} {r0 : AS × Int32} (C : cx p s m args meth c D E (Aof (mx M a0, ρ) [] s.heap.size) cX9_fields 3 "TradeLineModel") (hr : meth.sig.returnType = (some .int)) (hz : s.heap.size = sz) (hρ : rsh ρ) {a : AS} {x1 x2 : Int32}   (h : f_X9_fields  w a x1 x2 = some r0) : G p l e ({ frames := 3, cells := 0, slots := 0, locals := 64 } : Room) s m args below meth c D E (Aof (mx M a0, ρ) [] s.heap.size) 3 (MQ below (cQ D E sz (mx M a0, ρ) [] (pI (fun r u => r = r0.2 ∧ u = ((mx M r0.1, ρ), [])))) args s 0 0 (Aof (mx M a0, ρ) [] s.heap.size)) (mx M a, ρ) [] 0 0 0 [(0, .ref (ρ.2.2.2 40 0)), (1, .int x1), (2, .int x2)] [] := by
  unfold f_X9_fields at h
  refine g_aload_n C dX9_fields_0 rfl 0 rfl ?_
  refine g_aload_n C dX9_fields_1 rfl 0 rfl ?_
  refine g_iload_n C dX9_fields_2 rfl 1 rfl ?_
  refine g_iload_n C dX9_fields_3 rfl 2 rfl ?_
  obtain ⟨v1, hv1, h⟩ := bind_of h
  refine g_cVi (n := 2) (exc := []) (exr := []) C [_, _] _ rfl rfl [] [] rfl rfl rfl rfl (fun _ h => absurd h (by simp)) (fun _ h => absurd h (by simp)) (fun _ h => absurd h (by simp)) (fun sz => k_X9_isMessage l M ρ hρ w _ _ _ _ hv1 D E sz) rfl gw_1623 gw_9 gw_1620 gw_1622 gs_65 ⟨by decide +kernel, by decide +kernel, by decide +kernel⟩ ⟨rfl, rfl⟩ ⟨Nat.le_of_ble_eq_true rfl, Nat.le_of_ble_eq_true rfl⟩ (rcvT (lvY0 hρ) rfl rfl rfl) (Nat.le_of_ble_eq_true rfl) dX9_fields_4 ⟨by decide, by decide⟩ (fun r u hp hx => ?_)
  obtain ⟨er, rfl⟩ := hp
  rw [er]
  try dsimp only [List.append_nil]
  refine g_if_eq (tgt := 14) C dX9_fields_7 (by decide) (fun c7 => ?_) (fun c7 => ?_)
  · replace h := (if_pos c7).symm.trans h
    refine g_iconst (v := (1 : Int32)) C dX9_fields_14 (by decide) ?_
    refine g_lv [0, 1, 2] rfl ?_
    exact lb_X9_fields_15 C hr hz hρ  h
  · replace h := (if_neg c7).symm.trans h
    refine g_iconst (v := (0 : Int32)) C dX9_fields_10 (by decide) ?_
    refine g_goto (tgt := 15) C dX9_fields_11 (by decide) ?_
    refine g_lv [0, 1, 2] rfl ?_
    exact lb_X9_fields_15 C hr hz hρ  h
theorem k_X9_fields (l : Launch) (M : Nat → Nat → Nat → Int32) (ρ : YR) (hρ : rsh ρ) (w : Nat) (a : AS) (x1 x2 : Int32) (r0 : AS × Int32) (h : f_X9_fields w a x1 x2 = some r0) : ∀ D E sz, Met l yX9_fields gwX9_fields ({ frames := 3, cells := 0, slots := 0, locals := 64 } : Room) (cP D E sz (mx M a, ρ) [] [.ref (ρ.2.2.2 40 0), .int x1, .int x2]) (cQ D E sz (mx M a, ρ) [] (pI (fun r u => r = r0.2 ∧ u = ((mx M r0.1, ρ), [])))) (0) (0) (Aof (mx M a, ρ) [] sz) := by
  intro D E sz
  refine g_of (cc := cX9_fields) (maxL := 3) (ret := (some .int)) (own := "TradeLineModel") (by decide) rfl rfl (Nat.le_of_ble_eq_true rfl) ?_
  intro p e s m args below meth c C hr hin hz ha hwr
  refine g_lv [0, 1, 2] rfl ?_
  exact lb_X9_fields_0 C hr hz hρ h
noncomputable def b_X9_asksField_36  (w : Nat) (a : AS) (s0 : Int32) : Option (AS × Int32) := yl (up2 a 0 0 s0) (fun a2 => (if (a2 0 0) = (0 : Int32) then (some (a2, (1 : Int32))) else (some (a2, (0 : Int32)))))
set_option maxHeartbeats 4000000 in
set_option maxRecDepth 100000 in
theorem lb_X9_asksField_36 {p : Program} {l : Launch} {e : Env} {s : State} {m : MethodId} {args : Array Value} {below : List Frame} {meth : Method} {c : Code} {D : va_G} {E : Nat → ClassId} {sz : Nat} {M : Nat → Nat → Nat → Int32} {a0 : AS} {ρ : YR} {w : Nat} {r0 : AS × Int32} (C : cx p s m args meth c D E (Aof (mx M a0, ρ) [] s.heap.size) cX9_asksField 4 "TradeLineModel") (hr : meth.sig.returnType = (some .boolean)) (hz : s.heap.size = sz) (hρ : rsh ρ) {a : AS} {s0 : Int32}   (h : b_X9_asksField_36  w a s0 = some r0) : G p l e ({ frames := 3, cells := 0, slots := 0, locals := 64 } : Room) s m args below meth c D E (Aof (mx M a0, ρ) [] s.heap.size) 4 (MQ below (cQ D E sz (mx M a0, ρ) [] (pI (fun r u => r = r0.2 ∧ u = ((mx M r0.1, ρ), [])))) args s 0 0 (Aof (mx M a0, ρ) [] s.heap.size)) (mx M a, ρ) [] 0 0 36 [(0, .ref (ρ.2.2.2 40 0))] [.int s0, .ref (ρ.2.2.2 40 0)] := by
  unfold b_X9_asksField_36 at h
  refine q_put C hρ (j := 0) (by decide) gw_1329 rfl rfl (tyX9_ok 0 (by decide)) rfl rfl (by simp [fvs, up1]) dX9_asksField_36 (fun a2 ea2 => ?_)
  replace h := yl_of h ea2
  refine g_aload_n C dX9_asksField_39 rfl 0 rfl ?_
  refine g_get (k := 40) (i := 0) (ref := "TradeLineModel") (v := .int (a2 0 0)) C rfl (lvY0 hρ) rfl rfl inGX9 0 (by decide) gw_1329 (fun _ h => h) rfl dX9_asksField_40 ?_
  refine g_if_ne (tgt := 50) C dX9_asksField_43 (by decide) (fun c43 => ?_) (fun c43 => ?_)
  · replace h := (if_neg c43).symm.trans h
    refine g_iconst (v := (0 : Int32)) C dX9_asksField_50 (by decide) ?_
    obtain rfl := Option.some.inj h
    exact g_iret C hr rfl hz ⟨rfl, rfl, fun _ => rfl, fun _ => rfl⟩ ⟨rfl, rfl⟩ (fun j x h => by simp at h) dX9_asksField_51
  · replace h := (if_pos c43).symm.trans h
    refine g_iconst (v := (1 : Int32)) C dX9_asksField_46 (by decide) ?_
    refine g_goto (tgt := 51) C dX9_asksField_47 (by decide) ?_
    obtain rfl := Option.some.inj h
    exact g_iret C hr rfl hz ⟨rfl, rfl, fun _ => rfl, fun _ => rfl⟩ ⟨rfl, rfl⟩ (fun j x h => by simp at h) dX9_asksField_51
noncomputable def b_X9_asksField_35  (w : Nat) (a : AS) : Option (AS × Int32) := b_X9_asksField_36  w a (1 : Int32)
set_option maxHeartbeats 4000000 in
set_option maxRecDepth 100000 in
theorem lb_X9_asksField_35 {p : Program} {l : Launch} {e : Env} {s : State} {m : MethodId} {args : Array Value} {below : List Frame} {meth : Method} {c : Code} {D : va_G} {E : Nat → ClassId} {sz : Nat} {M : Nat → Nat → Nat → Int32} {a0 : AS} {ρ : YR} {w : Nat} {r0 : AS × Int32} (C : cx p s m args meth c D E (Aof (mx M a0, ρ) [] s.heap.size) cX9_asksField 4 "TradeLineModel") (hr : meth.sig.returnType = (some .boolean)) (hz : s.heap.size = sz) (hρ : rsh ρ) {a : AS}   (h : b_X9_asksField_35  w a  = some r0) : G p l e ({ frames := 3, cells := 0, slots := 0, locals := 64 } : Room) s m args below meth c D E (Aof (mx M a0, ρ) [] s.heap.size) 4 (MQ below (cQ D E sz (mx M a0, ρ) [] (pI (fun r u => r = r0.2 ∧ u = ((mx M r0.1, ρ), [])))) args s 0 0 (Aof (mx M a0, ρ) [] s.heap.size)) (mx M a, ρ) [] 0 0 35 [(0, .ref (ρ.2.2.2 40 0))] [.ref (ρ.2.2.2 40 0)] := by
  unfold b_X9_asksField_35 at h
  refine g_iconst (v := (1 : Int32)) C dX9_asksField_35 (by decide) ?_
  refine g_lv [0] rfl ?_
  exact lb_X9_asksField_36 C hr hz hρ  h
noncomputable def f_X9_asksField  (w : Nat) (a : AS) (x1 x2 x3 : Int32) : Option (AS × Int32) := (f_X9_isMessage w a x1 x2).bind (fun v1 => (if v1 = (0 : Int32) then (b_X9_asksField_35  w a ) else ((f_X9_manyOwn w a (((8192 : Int32) * x1) + x2)).bind (fun v3 => (f_X9_in w a x3 (0 : Int32) (v3 + (2 : Int32))).bind (fun v4 => (if v4 = (0 : Int32) then (b_X9_asksField_35  w a ) else (b_X9_asksField_36  w a (0 : Int32))))))))
set_option maxHeartbeats 4000000 in
set_option maxRecDepth 100000 in
theorem lb_X9_asksField_0 {p : Program} {l : Launch} {e : Env} {s : State} {m : MethodId} {args : Array Value} {below : List Frame} {meth : Method} {c : Code} {D : va_G} {E : Nat → ClassId} {sz : Nat} {M : Nat → Nat → Nat → Int32} {a0 : AS} {ρ : YR} {w : Nat} {r0 : AS × Int32} (C : cx p s m args meth c D E (Aof (mx M a0, ρ) [] s.heap.size) cX9_asksField 4 "TradeLineModel") (hr : meth.sig.returnType = (some .boolean)) (hz : s.heap.size = sz) (hρ : rsh ρ) {a : AS} {x1 x2 x3 : Int32}   (h : f_X9_asksField  w a x1 x2 x3 = some r0) : G p l e ({ frames := 3, cells := 0, slots := 0, locals := 64 } : Room) s m args below meth c D E (Aof (mx M a0, ρ) [] s.heap.size) 4 (MQ below (cQ D E sz (mx M a0, ρ) [] (pI (fun r u => r = r0.2 ∧ u = ((mx M r0.1, ρ), [])))) args s 0 0 (Aof (mx M a0, ρ) [] s.heap.size)) (mx M a, ρ) [] 0 0 0 [(0, .ref (ρ.2.2.2 40 0)), (1, .int x1), (2, .int x2), (3, .int x3)] [] := by
  unfold f_X9_asksField at h
  refine g_aload_n C dX9_asksField_0 rfl 0 rfl ?_
  refine g_aload_n C dX9_asksField_1 rfl 0 rfl ?_
  refine g_iload_n C dX9_asksField_2 rfl 1 rfl ?_
  refine g_iload_n C dX9_asksField_3 rfl 2 rfl ?_
  obtain ⟨v1, hv1, h⟩ := bind_of h
  refine g_cVi (n := 2) (exc := []) (exr := []) C [_, _] _ rfl rfl [] [] rfl rfl rfl rfl (fun _ h => absurd h (by simp)) (fun _ h => absurd h (by simp)) (fun _ h => absurd h (by simp)) (fun sz => k_X9_isMessage l M ρ hρ w _ _ _ _ hv1 D E sz) rfl gw_1623 gw_9 gw_1620 gw_1622 gs_65 ⟨by decide +kernel, by decide +kernel, by decide +kernel⟩ ⟨rfl, rfl⟩ ⟨Nat.le_of_ble_eq_true rfl, Nat.le_of_ble_eq_true rfl⟩ (rcvT (lvY0 hρ) rfl rfl rfl) (Nat.le_of_ble_eq_true rfl) dX9_asksField_4 ⟨by decide, by decide⟩ (fun r u hp hx => ?_)
  obtain ⟨er, rfl⟩ := hp
  rw [er]
  try dsimp only [List.append_nil]
  refine g_if_eq (tgt := 35) C dX9_asksField_7 (by decide) (fun c7 => ?_) (fun c7 => ?_)
  · replace h := (if_pos c7).symm.trans h
    refine g_lv [0] rfl ?_
    exact lb_X9_asksField_35 C hr hz hρ  h
  · replace h := (if_neg c7).symm.trans h
    refine g_iload_n C dX9_asksField_10 rfl 3 rfl ?_
    refine g_iconst (v := (0 : Int32)) C dX9_asksField_11 (by decide) ?_
    refine g_aload_n C dX9_asksField_12 rfl 0 rfl ?_
    refine g_sipush (v := (8192 : Int32)) C dX9_asksField_13 (by decide) ?_
    refine g_iload_n C dX9_asksField_16 rfl 1 rfl ?_
    refine g_imul C dX9_asksField_17 ?_
    refine g_iload_n C dX9_asksField_18 rfl 2 rfl ?_
    refine g_iadd C dX9_asksField_19 ?_
    obtain ⟨v3, hv3, h⟩ := bind_of h
    refine g_cVi (n := 1) (exc := []) (exr := []) C [_] _ rfl rfl [] [] rfl rfl rfl rfl (fun _ h => absurd h (by simp)) (fun _ h => absurd h (by simp)) (fun _ h => absurd h (by simp)) (fun sz => k_X9_manyOwn l M ρ hρ w _ _ _ hv3 D E sz) rfl gw_1627 gw_9 gw_1624 gw_1626 gs_66 ⟨by decide +kernel, by decide +kernel, by decide +kernel⟩ ⟨rfl, rfl⟩ ⟨Nat.le_of_ble_eq_true rfl, Nat.le_of_ble_eq_true rfl⟩ (rcvT (lvY0 hρ) rfl rfl rfl) (Nat.le_of_ble_eq_true rfl) dX9_asksField_20 ⟨by decide, by decide⟩ (fun r u hp hx => ?_)
    obtain ⟨er, rfl⟩ := hp
    rw [er]
    try dsimp only [List.append_nil]
    refine g_iconst (v := (2 : Int32)) C dX9_asksField_23 (by decide) ?_
    refine g_iadd C dX9_asksField_24 ?_
    obtain ⟨v4, hv4, h⟩ := bind_of h
    refine g_cSi (n := 3) (exc := []) (exr := []) C [_, _, _] _ rfl rfl [] [] rfl rfl rfl rfl (fun _ h => absurd h (by simp)) (fun _ h => absurd h (by simp)) (fun _ h => absurd h (by simp)) (fun sz => k_X9_in l M ρ hρ w _ _ _ _ _ hv4 D E sz) rfl gw_1507 gw_9 gw_1505 gw_1506 ⟨by decide +kernel, by decide +kernel, by decide +kernel⟩ ⟨rfl, rfl⟩ ⟨Nat.le_of_ble_eq_true rfl, Nat.le_of_ble_eq_true rfl⟩ (Nat.le_of_ble_eq_true rfl) dX9_asksField_25 ⟨by decide, by decide⟩ (fun r u hp hx => ?_)
    obtain ⟨er, rfl⟩ := hp
    rw [er]
    try dsimp only [List.append_nil]
    refine g_if_eq (tgt := 35) C dX9_asksField_28 (by decide) (fun c28 => ?_) (fun c28 => ?_)
    · replace h := (if_pos c28).symm.trans h
      refine g_lv [0] rfl ?_
      exact lb_X9_asksField_35 C hr hz hρ  h
    · replace h := (if_neg c28).symm.trans h
      refine g_iconst (v := (0 : Int32)) C dX9_asksField_31 (by decide) ?_
      refine g_goto (tgt := 36) C dX9_asksField_32 (by decide) ?_
      refine g_lv [0] rfl ?_
      exact lb_X9_asksField_36 C hr hz hρ  h
theorem k_X9_asksField (l : Launch) (M : Nat → Nat → Nat → Int32) (ρ : YR) (hρ : rsh ρ) (w : Nat) (a : AS) (x1 x2 x3 : Int32) (r0 : AS × Int32) (h : f_X9_asksField w a x1 x2 x3 = some r0) : ∀ D E sz, Met l yX9_asksField gwX9_asksField ({ frames := 3, cells := 0, slots := 0, locals := 64 } : Room) (cP D E sz (mx M a, ρ) [] [.ref (ρ.2.2.2 40 0), .int x1, .int x2, .int x3]) (cQ D E sz (mx M a, ρ) [] (pI (fun r u => r = r0.2 ∧ u = ((mx M r0.1, ρ), [])))) (0) (0) (Aof (mx M a, ρ) [] sz) := by
  intro D E sz
  refine g_of (cc := cX9_asksField) (maxL := 4) (ret := (some .boolean)) (own := "TradeLineModel") (by decide) rfl rfl (Nat.le_of_ble_eq_true rfl) ?_
  intro p e s m args below meth c C hr hin hz ha hwr
  refine g_lv [0, 1, 2, 3] rfl ?_
  exact lb_X9_asksField_0 C hr hz hρ h
noncomputable def f_X9_tagAt  (w : Nat) (a : AS) (x1 x2 x3 : Int32) : Option (AS × Int32) := (f_X9_asksField w a x1 x2 x3).bind (fun v1 => (if v1.2 = (0 : Int32) then (some (v1.1, (0 : Int32))) else ((f_X9_tagOf w v1.1 (((8192 : Int32) * x1) + x2) x3).bind (fun v2 => some (v1.1, v2)))))
set_option maxHeartbeats 4000000 in
set_option maxRecDepth 100000 in
theorem lb_X9_tagAt_0 {p : Program} {l : Launch} {e : Env} {s : State} {m : MethodId} {args : Array Value} {below : List Frame} {meth : Method} {c : Code} {D : va_G} {E : Nat → ClassId} {sz : Nat} {M : Nat → Nat → Nat → Int32} {a0 : AS} {ρ : YR} {w : Nat} {r0 : AS × Int32} (C : cx p s m args meth c D E (Aof (mx M a0, ρ) [] s.heap.size) cX9_tagAt 4 "TradeLineModel") (hr : meth.sig.returnType = (some .int)) (hz : s.heap.size = sz) (hρ : rsh ρ) {a : AS} {x1 x2 x3 : Int32}   (h : f_X9_tagAt  w a x1 x2 x3 = some r0) : G p l e ({ frames := 4, cells := 0, slots := 0, locals := 87 } : Room) s m args below meth c D E (Aof (mx M a0, ρ) [] s.heap.size) 4 (MQ below (cQ D E sz (mx M a0, ρ) [] (pI (fun r u => r = r0.2 ∧ u = ((mx M r0.1, ρ), [])))) args s 0 0 (Aof (mx M a0, ρ) [] s.heap.size)) (mx M a, ρ) [] 0 0 0 [(0, .ref (ρ.2.2.2 40 0)), (1, .int x1), (2, .int x2), (3, .int x3)] [] := by
  unfold f_X9_tagAt at h
  refine g_aload_n C dX9_tagAt_0 rfl 0 rfl ?_
  refine g_iload_n C dX9_tagAt_1 rfl 1 rfl ?_
  refine g_iload_n C dX9_tagAt_2 rfl 2 rfl ?_
  refine g_iload_n C dX9_tagAt_3 rfl 3 rfl ?_
  obtain ⟨v1, hv1, h⟩ := bind_of h
  refine g_cVi (n := 3) (exc := []) (exr := []) C [_, _, _] _ rfl rfl [] [] rfl rfl rfl rfl (fun _ h => absurd h (by simp)) (fun _ h => absurd h (by simp)) (fun _ h => absurd h (by simp)) (fun sz => k_X9_asksField l M ρ hρ w _ _ _ _ _ hv1 D E sz) rfl gw_1635 gw_9 gw_1632 gw_1634 gs_67 ⟨by decide +kernel, by decide +kernel, by decide +kernel⟩ ⟨rfl, rfl⟩ ⟨Nat.le_of_ble_eq_true rfl, Nat.le_of_ble_eq_true rfl⟩ (rcvT (lvY0 hρ) rfl rfl rfl) (Nat.le_of_ble_eq_true rfl) dX9_tagAt_4 ⟨by decide, by decide⟩ (fun r u hp hx => ?_)
  obtain ⟨er, rfl⟩ := hp
  rw [er]
  try dsimp only [List.append_nil]
  refine g_if_eq (tgt := 25) C dX9_tagAt_7 (by decide) (fun c7 => ?_) (fun c7 => ?_)
  · replace h := (if_pos c7).symm.trans h
    refine g_iconst (v := (0 : Int32)) C dX9_tagAt_25 (by decide) ?_
    obtain rfl := Option.some.inj h
    exact g_iret C hr rfl hz ⟨rfl, rfl, fun _ => rfl, fun _ => rfl⟩ ⟨rfl, rfl⟩ (fun j x h => by simp at h) dX9_tagAt_26
  · replace h := (if_neg c7).symm.trans h
    refine g_aload_n C dX9_tagAt_10 rfl 0 rfl ?_
    refine g_sipush (v := (8192 : Int32)) C dX9_tagAt_11 (by decide) ?_
    refine g_iload_n C dX9_tagAt_14 rfl 1 rfl ?_
    refine g_imul C dX9_tagAt_15 ?_
    refine g_iload_n C dX9_tagAt_16 rfl 2 rfl ?_
    refine g_iadd C dX9_tagAt_17 ?_
    refine g_iload_n C dX9_tagAt_18 rfl 3 rfl ?_
    obtain ⟨v2, hv2, h⟩ := bind_of h
    refine g_cVi (n := 2) (exc := []) (exr := []) C [_, _] _ rfl rfl [] [] rfl rfl rfl rfl (fun _ h => absurd h (by simp)) (fun _ h => absurd h (by simp)) (fun _ h => absurd h (by simp)) (fun sz => k_X9_tagOf l M ρ hρ w _ _ _ _ hv2 D E sz) rfl gw_1639 gw_9 gw_1636 gw_1638 gs_68 ⟨by decide +kernel, by decide +kernel, by decide +kernel⟩ ⟨rfl, rfl⟩ ⟨Nat.le_of_ble_eq_true rfl, Nat.le_of_ble_eq_true rfl⟩ (rcvT (lvY0 hρ) rfl rfl rfl) (Nat.le_of_ble_eq_true rfl) dX9_tagAt_19 ⟨by decide, by decide⟩ (fun r u hp hx => ?_)
    obtain ⟨er, rfl⟩ := hp
    rw [er]
    try dsimp only [List.append_nil]
    refine g_goto (tgt := 26) C dX9_tagAt_22 (by decide) ?_
    obtain rfl := Option.some.inj h
    exact g_iret C hr rfl hz ⟨rfl, rfl, fun _ => rfl, fun _ => rfl⟩ ⟨rfl, rfl⟩ (fun j x h => by simp at h) dX9_tagAt_26
theorem k_X9_tagAt (l : Launch) (M : Nat → Nat → Nat → Int32) (ρ : YR) (hρ : rsh ρ) (w : Nat) (a : AS) (x1 x2 x3 : Int32) (r0 : AS × Int32) (h : f_X9_tagAt w a x1 x2 x3 = some r0) : ∀ D E sz, Met l yX9_tagAt gwX9_tagAt ({ frames := 4, cells := 0, slots := 0, locals := 87 } : Room) (cP D E sz (mx M a, ρ) [] [.ref (ρ.2.2.2 40 0), .int x1, .int x2, .int x3]) (cQ D E sz (mx M a, ρ) [] (pI (fun r u => r = r0.2 ∧ u = ((mx M r0.1, ρ), [])))) (0) (0) (Aof (mx M a, ρ) [] sz) := by
  intro D E sz
  refine g_of (cc := cX9_tagAt) (maxL := 4) (ret := (some .int)) (own := "TradeLineModel") (by decide) rfl rfl (Nat.le_of_ble_eq_true rfl) ?_
  intro p e s m args below meth c C hr hin hz ha hwr
  refine g_lv [0, 1, 2, 3] rfl ?_
  exact lb_X9_tagAt_0 C hr hz hρ h
noncomputable def b_X9_valueAt_48 (k48 : AS → Int32 → Int32 → Int32 → Int32 → Int32 → Option (AS × Int32)) (w : Nat) (a : AS) (x2 x3 x4 x5 x6 : Int32) : Option (AS × Int32) := (if x3 ≤ x6 then (some (a, (x5 - x5 / (256 : Int32) * (256 : Int32)))) else ((f_X9_tagOf w a x4 x6).bind (fun v4 => (f_X9_valueOf w a x4 x2 x6).bind (fun v5 => yl ((x5 + (v4 + v5))) (fun t6 => yl (x6 + (1 : Int32)) (fun t7 => k48 a x2 x3 x4 t6 t7))))))
set_option maxHeartbeats 4000000 in
set_option maxRecDepth 100000 in
theorem lb_X9_valueAt_48 {p : Program} {l : Launch} {e : Env} {s : State} {m : MethodId} {args : Array Value} {below : List Frame} {meth : Method} {c : Code} {D : va_G} {E : Nat → ClassId} {sz : Nat} {M : Nat → Nat → Nat → Int32} {a0 : AS} {ρ : YR} {w : Nat} {r0 : AS × Int32} (C : cx p s m args meth c D E (Aof (mx M a0, ρ) [] s.heap.size) cX9_valueAt 7 "TradeLineModel") (hr : meth.sig.returnType = (some .int)) (hz : s.heap.size = sz) (hρ : rsh ρ) {a : AS} {x2 x3 x4 x5 x6 : Int32} {k48 : AS → Int32 → Int32 → Int32 → Int32 → Int32 → Option (AS × Int32)} (hk48 : ∀ (a1 : AS) (z2 z3 z4 z5 z6 : Int32), k48 a1 z2 z3 z4 z5 z6 = some r0 → G p l e ({ frames := 4, cells := 0, slots := 0, locals := 87 } : Room) s m args below meth c D E (Aof (mx M a0, ρ) [] s.heap.size) 7 (MQ below (cQ D E sz (mx M a0, ρ) [] (pI (fun r u => r = r0.2 ∧ u = ((mx M r0.1, ρ), [])))) args s 0 0 (Aof (mx M a0, ρ) [] s.heap.size)) (mx M a1, ρ) [] 0 0 48 [(0, .ref (ρ.2.2.2 40 0)), (2, .int z2), (3, .int z3), (4, .int z4), (5, .int z5), (6, .int z6)] []) (h : b_X9_valueAt_48 k48 w a x2 x3 x4 x5 x6 = some r0) : G p l e ({ frames := 4, cells := 0, slots := 0, locals := 87 } : Room) s m args below meth c D E (Aof (mx M a0, ρ) [] s.heap.size) 7 (MQ below (cQ D E sz (mx M a0, ρ) [] (pI (fun r u => r = r0.2 ∧ u = ((mx M r0.1, ρ), [])))) args s 0 0 (Aof (mx M a0, ρ) [] s.heap.size)) (mx M a, ρ) [] 0 0 48 [(0, .ref (ρ.2.2.2 40 0)), (2, .int x2), (3, .int x3), (4, .int x4), (5, .int x5), (6, .int x6)] [] := by
  unfold b_X9_valueAt_48 at h
  refine g_iload C dX9_valueAt_48 5 rfl ?_
  refine g_iload_n C dX9_valueAt_50 rfl 2 rfl ?_
  refine g_icmp_ge (tgt := 83) C dX9_valueAt_51 (by decide) (fun c51 => ?_) (fun c51 => ?_)
  · replace h := (if_pos c51).symm.trans h
    refine g_iload C dX9_valueAt_83 4 rfl ?_
    refine g_sipush (v := (256 : Int32)) C dX9_valueAt_85 (by decide) ?_
    refine g_irem C dX9_valueAt_88 (by decide) ?_
    obtain rfl := Option.some.inj h
    exact g_iret C hr rfl hz ⟨rfl, rfl, fun _ => rfl, fun _ => rfl⟩ ⟨rfl, rfl⟩ (fun j x h => by simp at h) dX9_valueAt_89
  · replace h := (if_neg c51).symm.trans h
    refine g_iload C dX9_valueAt_54 4 rfl ?_
    refine g_aload_n C dX9_valueAt_56 rfl 0 rfl ?_
    refine g_iload C dX9_valueAt_57 3 rfl ?_
    refine g_iload C dX9_valueAt_59 5 rfl ?_
    obtain ⟨v4, hv4, h⟩ := bind_of h
    refine g_cVi (n := 2) (exc := []) (exr := []) C [_, _] _ rfl rfl [] [] rfl rfl rfl rfl (fun _ h => absurd h (by simp)) (fun _ h => absurd h (by simp)) (fun _ h => absurd h (by simp)) (fun sz => k_X9_tagOf l M ρ hρ w _ _ _ _ hv4 D E sz) rfl gw_1639 gw_9 gw_1636 gw_1638 gs_68 ⟨by decide +kernel, by decide +kernel, by decide +kernel⟩ ⟨rfl, rfl⟩ ⟨Nat.le_of_ble_eq_true rfl, Nat.le_of_ble_eq_true rfl⟩ (rcvT (lvY0 hρ) rfl rfl rfl) (Nat.le_of_ble_eq_true rfl) dX9_valueAt_61 ⟨by decide, by decide⟩ (fun r u hp hx => ?_)
    obtain ⟨er, rfl⟩ := hp
    rw [er]
    try dsimp only [List.append_nil]
    refine g_aload_n C dX9_valueAt_64 rfl 0 rfl ?_
    refine g_iload C dX9_valueAt_65 3 rfl ?_
    refine g_iload_n C dX9_valueAt_67 rfl 1 rfl ?_
    refine g_iload C dX9_valueAt_68 5 rfl ?_
    obtain ⟨v5, hv5, h⟩ := bind_of h
    refine g_cVi (n := 3) (exc := []) (exr := []) C [_, _, _] _ rfl rfl [] [] rfl rfl rfl rfl (fun _ h => absurd h (by simp)) (fun _ h => absurd h (by simp)) (fun _ h => absurd h (by simp)) (fun sz => k_X9_valueOf l M ρ hρ w _ _ _ _ _ hv5 D E sz) rfl gw_1655 gw_9 gw_1652 gw_1654 gs_71 ⟨by decide +kernel, by decide +kernel, by decide +kernel⟩ ⟨rfl, rfl⟩ ⟨Nat.le_of_ble_eq_true rfl, Nat.le_of_ble_eq_true rfl⟩ (rcvT (lvY0 hρ) rfl rfl rfl) (Nat.le_of_ble_eq_true rfl) dX9_valueAt_70 ⟨by decide, by decide⟩ (fun r u hp hx => ?_)
    obtain ⟨er, rfl⟩ := hp
    rw [er]
    try dsimp only [List.append_nil]
    refine g_iadd C dX9_valueAt_73 ?_
    refine g_iadd C dX9_valueAt_74 ?_
    refine q_topi (fun t6 et6 => ?_)
    replace h := yl_of h et6
    refine g_istore (lv' := [(5, .int t6), (0, .ref (ρ.2.2.2 40 0)), (2, .int x2), (3, .int x3), (4, .int x4), (6, .int x6)]) C dX9_valueAt_75 (by decide) rfl ?_
    obtain ⟨t7, et7⟩ : ∃ y : Int32, x6 + (1 : Int32) = y := ⟨_, rfl⟩
    replace h := yl_of h et7
    refine g_iinc (v := t7) (lv' := [(6, .int t7), (5, .int t6), (0, .ref (ρ.2.2.2 40 0)), (2, .int x2), (3, .int x3), (4, .int x4)]) C dX9_valueAt_77 5 rfl (by rw [← et7]; rfl) (by decide) rfl ?_
    refine g_goto (tgt := 48) C dX9_valueAt_80 (by decide) ?_
    refine g_lv [2, 3, 4, 5, 1, 0] rfl ?_
    exact hk48 _ _ _ _ _ _ h
noncomputable def l_X9_valueAt_48  (w : Nat) : Nat → AS → Int32 → Int32 → Int32 → Int32 → Int32 → Option (AS × Int32)
  | 0 => fun _ _ _ _ _ _ => none
  | n + 1 => fun a x2 x3 x4 x5 x6 => b_X9_valueAt_48  (l_X9_valueAt_48  w n) w a x2 x3 x4 x5 x6
theorem ll_X9_valueAt_48 {p : Program} {l : Launch} {e : Env} {s : State} {m : MethodId} {args : Array Value} {below : List Frame} {meth : Method} {c : Code} {D : va_G} {E : Nat → ClassId} {sz : Nat} {M : Nat → Nat → Nat → Int32} {a0 : AS} {ρ : YR} {w : Nat} {r0 : AS × Int32} (C : cx p s m args meth c D E (Aof (mx M a0, ρ) [] s.heap.size) cX9_valueAt 7 "TradeLineModel") (hr : meth.sig.returnType = (some .int)) (hz : s.heap.size = sz) (hρ : rsh ρ)   : ∀ (n : Nat) (a : AS) (x2 x3 x4 x5 x6 : Int32), l_X9_valueAt_48  w n a x2 x3 x4 x5 x6 = some r0 → G p l e ({ frames := 4, cells := 0, slots := 0, locals := 87 } : Room) s m args below meth c D E (Aof (mx M a0, ρ) [] s.heap.size) 7 (MQ below (cQ D E sz (mx M a0, ρ) [] (pI (fun r u => r = r0.2 ∧ u = ((mx M r0.1, ρ), [])))) args s 0 0 (Aof (mx M a0, ρ) [] s.heap.size)) (mx M a, ρ) [] 0 0 48 [(0, .ref (ρ.2.2.2 40 0)), (2, .int x2), (3, .int x3), (4, .int x4), (5, .int x5), (6, .int x6)] [] := by
  intro n
  induction n with
  | zero => exact fun a x2 x3 x4 x5 x6 h => absurd (show (none : Option (AS × Int32)) = some r0 from h) (by simp)
  | succ n ih => exact fun a x2 x3 x4 x5 x6 h => lb_X9_valueAt_48 (w := w) C hr hz hρ  ih h
noncomputable def f_X9_valueAt  (w : Nat) (a : AS) (x1 x2 x3 : Int32) : Option (AS × Int32) := (f_X9_asksField w a x1 x2 x3).bind (fun v1 => (if v1.2 = (0 : Int32) then (some (v1.1, (0 : Int32))) else (yl ((((8192 : Int32) * x1) + x2)) (fun t2 => (f_X9_manyOwn w v1.1 t2).bind (fun v3 => (if (v3 + (2 : Int32)) ≤ x3 then (l_X9_valueAt_48  w w v1.1 x2 x3 t2 (0 : Int32) (0 : Int32)) else ((f_X9_valueOf w v1.1 t2 x2 x3).bind (fun v8 => some (v1.1, v8)))))))))
set_option maxHeartbeats 4000000 in
set_option maxRecDepth 100000 in
theorem lb_X9_valueAt_0 {p : Program} {l : Launch} {e : Env} {s : State} {m : MethodId} {args : Array Value} {below : List Frame} {meth : Method} {c : Code} {D : va_G} {E : Nat → ClassId} {sz : Nat} {M : Nat → Nat → Nat → Int32} {a0 : AS} {ρ : YR} {w : Nat} {r0 : AS × Int32} (C : cx p s m args meth c D E (Aof (mx M a0, ρ) [] s.heap.size) cX9_valueAt 7 "TradeLineModel") (hr : meth.sig.returnType = (some .int)) (hz : s.heap.size = sz) (hρ : rsh ρ) {a : AS} {x1 x2 x3 : Int32}   (h : f_X9_valueAt  w a x1 x2 x3 = some r0) : G p l e ({ frames := 4, cells := 0, slots := 0, locals := 87 } : Room) s m args below meth c D E (Aof (mx M a0, ρ) [] s.heap.size) 7 (MQ below (cQ D E sz (mx M a0, ρ) [] (pI (fun r u => r = r0.2 ∧ u = ((mx M r0.1, ρ), [])))) args s 0 0 (Aof (mx M a0, ρ) [] s.heap.size)) (mx M a, ρ) [] 0 0 0 [(0, .ref (ρ.2.2.2 40 0)), (1, .int x1), (2, .int x2), (3, .int x3)] [] := by
  unfold f_X9_valueAt at h
  refine g_aload_n C dX9_valueAt_0 rfl 0 rfl ?_
  refine g_iload_n C dX9_valueAt_1 rfl 1 rfl ?_
  refine g_iload_n C dX9_valueAt_2 rfl 2 rfl ?_
  refine g_iload_n C dX9_valueAt_3 rfl 3 rfl ?_
  obtain ⟨v1, hv1, h⟩ := bind_of h
  refine g_cVi (n := 3) (exc := []) (exr := []) C [_, _, _] _ rfl rfl [] [] rfl rfl rfl rfl (fun _ h => absurd h (by simp)) (fun _ h => absurd h (by simp)) (fun _ h => absurd h (by simp)) (fun sz => k_X9_asksField l M ρ hρ w _ _ _ _ _ hv1 D E sz) rfl gw_1635 gw_9 gw_1632 gw_1634 gs_67 ⟨by decide +kernel, by decide +kernel, by decide +kernel⟩ ⟨rfl, rfl⟩ ⟨Nat.le_of_ble_eq_true rfl, Nat.le_of_ble_eq_true rfl⟩ (rcvT (lvY0 hρ) rfl rfl rfl) (Nat.le_of_ble_eq_true rfl) dX9_valueAt_4 ⟨by decide, by decide⟩ (fun r u hp hx => ?_)
  obtain ⟨er, rfl⟩ := hp
  rw [er]
  try dsimp only [List.append_nil]
  refine g_if_ne (tgt := 12) C dX9_valueAt_7 (by decide) (fun c7 => ?_) (fun c7 => ?_)
  · replace h := (if_neg c7).symm.trans h
    refine g_sipush (v := (8192 : Int32)) C dX9_valueAt_12 (by decide) ?_
    refine g_iload_n C dX9_valueAt_15 rfl 1 rfl ?_
    refine g_imul C dX9_valueAt_16 ?_
    refine g_iload_n C dX9_valueAt_17 rfl 2 rfl ?_
    refine g_iadd C dX9_valueAt_18 ?_
    refine q_topi (fun t2 et2 => ?_)
    replace h := yl_of h et2
    refine g_istore (lv' := [(4, .int t2), (0, .ref (ρ.2.2.2 40 0)), (1, .int x1), (2, .int x2), (3, .int x3)]) C dX9_valueAt_19 (by decide) rfl ?_
    refine g_iload_n C dX9_valueAt_21 rfl 4 rfl ?_
    refine g_aload_n C dX9_valueAt_22 rfl 1 rfl ?_
    refine g_iload C dX9_valueAt_23 0 rfl ?_
    obtain ⟨v3, hv3, h⟩ := bind_of h
    refine g_cVi (n := 1) (exc := []) (exr := []) C [_] _ rfl rfl [] [] rfl rfl rfl rfl (fun _ h => absurd h (by simp)) (fun _ h => absurd h (by simp)) (fun _ h => absurd h (by simp)) (fun sz => k_X9_manyOwn l M ρ hρ w _ _ _ hv3 D E sz) rfl gw_1627 gw_9 gw_1624 gw_1626 gs_66 ⟨by decide +kernel, by decide +kernel, by decide +kernel⟩ ⟨rfl, rfl⟩ ⟨Nat.le_of_ble_eq_true rfl, Nat.le_of_ble_eq_true rfl⟩ (rcvT (lvY0 hρ) rfl rfl rfl) (Nat.le_of_ble_eq_true rfl) dX9_valueAt_25 ⟨by decide, by decide⟩ (fun r u hp hx => ?_)
    obtain ⟨er, rfl⟩ := hp
    rw [er]
    try dsimp only [List.append_nil]
    refine g_iconst (v := (2 : Int32)) C dX9_valueAt_28 (by decide) ?_
    refine g_iadd C dX9_valueAt_29 ?_
    refine g_icmp_ge (tgt := 42) C dX9_valueAt_30 (by decide) (fun c30 => ?_) (fun c30 => ?_)
    · replace h := (if_pos c30).symm.trans h
      refine g_iconst (v := (0 : Int32)) C dX9_valueAt_42 (by decide) ?_
      refine g_istore (lv' := [(5, .int (0 : Int32)), (4, .int t2), (0, .ref (ρ.2.2.2 40 0)), (1, .int x1), (2, .int x2), (3, .int x3)]) C dX9_valueAt_43 (by decide) rfl ?_
      refine g_iconst (v := (0 : Int32)) C dX9_valueAt_45 (by decide) ?_
      refine g_istore (lv' := [(6, .int (0 : Int32)), (5, .int (0 : Int32)), (4, .int t2), (0, .ref (ρ.2.2.2 40 0)), (1, .int x1), (2, .int x2), (3, .int x3)]) C dX9_valueAt_46 (by decide) rfl ?_
      refine g_lv [3, 5, 6, 2, 1, 0] rfl ?_
      exact ll_X9_valueAt_48 C hr hz hρ  w _ _ _ _ _ _ h
    · replace h := (if_neg c30).symm.trans h
      refine g_aload_n C dX9_valueAt_33 rfl 1 rfl ?_
      refine g_iload C dX9_valueAt_34 0 rfl ?_
      refine g_iload_n C dX9_valueAt_36 rfl 3 rfl ?_
      refine g_iload_n C dX9_valueAt_37 rfl 4 rfl ?_
      obtain ⟨v8, hv8, h⟩ := bind_of h
      refine g_cVi (n := 3) (exc := []) (exr := []) C [_, _, _] _ rfl rfl [] [] rfl rfl rfl rfl (fun _ h => absurd h (by simp)) (fun _ h => absurd h (by simp)) (fun _ h => absurd h (by simp)) (fun sz => k_X9_valueOf l M ρ hρ w _ _ _ _ _ hv8 D E sz) rfl gw_1655 gw_9 gw_1652 gw_1654 gs_71 ⟨by decide +kernel, by decide +kernel, by decide +kernel⟩ ⟨rfl, rfl⟩ ⟨Nat.le_of_ble_eq_true rfl, Nat.le_of_ble_eq_true rfl⟩ (rcvT (lvY0 hρ) rfl rfl rfl) (Nat.le_of_ble_eq_true rfl) dX9_valueAt_38 ⟨by decide, by decide⟩ (fun r u hp hx => ?_)
      obtain ⟨er, rfl⟩ := hp
      rw [er]
      try dsimp only [List.append_nil]
      obtain rfl := Option.some.inj h
      exact g_iret C hr rfl hz ⟨rfl, rfl, fun _ => rfl, fun _ => rfl⟩ ⟨rfl, rfl⟩ (fun j x h => by simp at h) dX9_valueAt_41
  · replace h := (if_pos c7).symm.trans h
    refine g_iconst (v := (0 : Int32)) C dX9_valueAt_10 (by decide) ?_
    obtain rfl := Option.some.inj h
    exact g_iret C hr rfl hz ⟨rfl, rfl, fun _ => rfl, fun _ => rfl⟩ ⟨rfl, rfl⟩ (fun j x h => by simp at h) dX9_valueAt_11
theorem k_X9_valueAt (l : Launch) (M : Nat → Nat → Nat → Int32) (ρ : YR) (hρ : rsh ρ) (w : Nat) (a : AS) (x1 x2 x3 : Int32) (r0 : AS × Int32) (h : f_X9_valueAt w a x1 x2 x3 = some r0) : ∀ D E sz, Met l yX9_valueAt gwX9_valueAt ({ frames := 4, cells := 0, slots := 0, locals := 87 } : Room) (cP D E sz (mx M a, ρ) [] [.ref (ρ.2.2.2 40 0), .int x1, .int x2, .int x3]) (cQ D E sz (mx M a, ρ) [] (pI (fun r u => r = r0.2 ∧ u = ((mx M r0.1, ρ), [])))) (0) (0) (Aof (mx M a, ρ) [] sz) := by
  intro D E sz
  refine g_of (cc := cX9_valueAt) (maxL := 7) (ret := (some .int)) (own := "TradeLineModel") (by decide) rfl rfl (Nat.le_of_ble_eq_true rfl) ?_
  intro p e s m args below meth c C hr hin hz ha hwr
  refine g_lv [0, 1, 2, 3] rfl ?_
  exact lb_X9_valueAt_0 C hr hz hρ h
noncomputable def f_X9_isPending  (w : Nat) (a : AS) (x1 : Int32) : Option (Int32) := bif ixB x1 80 then (if (a 24 x1.toNatClampNeg) = (0 : Int32) then (some (1 : Int32)) else (some (0 : Int32))) else none
set_option maxHeartbeats 4000000 in
set_option maxRecDepth 100000 in
theorem lb_X9_isPending_0 {p : Program} {l : Launch} {e : Env} {s : State} {m : MethodId} {args : Array Value} {below : List Frame} {meth : Method} {c : Code} {D : va_G} {E : Nat → ClassId} {sz : Nat} {M : Nat → Nat → Nat → Int32} {a : AS} {ρ : YR} {w : Nat} {r0 : Int32} (C : cx p s m args meth c D E (Aof (mx M a, ρ) [] s.heap.size) cX9_isPending 2 "TradeLineModel") (hr : meth.sig.returnType = (some .boolean)) (hz : s.heap.size = sz) (hρ : rsh ρ) {x1 : Int32}   (h : f_X9_isPending  w a x1 = some r0) : G p l e ({ frames := 0, cells := 0, slots := 0, locals := 0 } : Room) s m args below meth c D E (Aof (mx M a, ρ) [] s.heap.size) 2 (MQ below (cQ D E sz (mx M a, ρ) [] (pI (fun r u => r = r0 ∧ u = ((mx M a, ρ), [])))) args s 0 0 (Aof (mx M a, ρ) [] s.heap.size)) (mx M a, ρ) [] 0 0 0 [(0, .ref (ρ.2.2.2 40 0)), (1, .int x1)] [] := by
  unfold f_X9_isPending at h
  refine g_aload_n C dX9_isPending_0 rfl 0 rfl ?_
  refine g_get (k := 40) (i := 0) (ref := "TradeLineModel") (v := .ref (ρ.2.2.2 (40 + 24) 0)) C rfl (lvY0 hρ) rfl rfl inGX9 24 (by decide) gw_1353 (fun _ h => h) rfl dX9_isPending_1 ?_
  refine g_iload_n C dX9_isPending_4 rfl 1 rfl ?_
  obtain ⟨g1, h⟩ := of_guard h
  refine q_zald C hρ (j := 24) (N := 80) (List.mem_of_getElem? (i := 20) rfl) rfl rfl g1 dX9_isPending_5 ?_
  refine g_if_ne (tgt := 13) C dX9_isPending_6 (by decide) (fun c6 => ?_) (fun c6 => ?_)
  · replace h := (if_neg c6).symm.trans h
    refine g_iconst (v := (0 : Int32)) C dX9_isPending_13 (by decide) ?_
    exact g_iret C hr rfl hz ⟨rfl, rfl, fun _ => rfl, fun _ => rfl⟩ ⟨Option.some.inj h, rfl⟩ (fun j x h => by simp at h) dX9_isPending_14
  · replace h := (if_pos c6).symm.trans h
    refine g_iconst (v := (1 : Int32)) C dX9_isPending_9 (by decide) ?_
    refine g_goto (tgt := 14) C dX9_isPending_10 (by decide) ?_
    exact g_iret C hr rfl hz ⟨rfl, rfl, fun _ => rfl, fun _ => rfl⟩ ⟨Option.some.inj h, rfl⟩ (fun j x h => by simp at h) dX9_isPending_14
theorem k_X9_isPending (l : Launch) (M : Nat → Nat → Nat → Int32) (ρ : YR) (hρ : rsh ρ) (w : Nat) (a : AS) (x1 : Int32) (r0 : Int32) (h : f_X9_isPending w a x1 = some r0) : ∀ D E sz, Met l yX9_isPending gwX9_isPending ({ frames := 0, cells := 0, slots := 0, locals := 0 } : Room) (cP D E sz (mx M a, ρ) [] [.ref (ρ.2.2.2 40 0), .int x1]) (cQ D E sz (mx M a, ρ) [] (pI (fun r u => r = r0 ∧ u = ((mx M a, ρ), [])))) (0) (0) (Aof (mx M a, ρ) [] sz) := by
  intro D E sz
  refine g_of (cc := cX9_isPending) (maxL := 2) (ret := (some .boolean)) (own := "TradeLineModel") (by decide) rfl rfl (Nat.le_of_ble_eq_true rfl) ?_
  intro p e s m args below meth c C hr hin hz ha hwr
  refine g_lv [0, 1] rfl ?_
  exact lb_X9_isPending_0 C hr hz hρ h
noncomputable def f_X9_stateIn  (w : Nat) (a : AS) (x1 : Int32) : Option (Int32) := (f_X9_isPending w a x1).bind (fun v1 => (if v1 = (0 : Int32) then ((f_X9_leftIn w a x1).bind (fun v2 => (if v2 ≤ (0 : Int32) then (some (2 : Int32)) else (some (1 : Int32))))) else (some (0 : Int32))))
set_option maxHeartbeats 4000000 in
set_option maxRecDepth 100000 in
theorem lb_X9_stateIn_0 {p : Program} {l : Launch} {e : Env} {s : State} {m : MethodId} {args : Array Value} {below : List Frame} {meth : Method} {c : Code} {D : va_G} {E : Nat → ClassId} {sz : Nat} {M : Nat → Nat → Nat → Int32} {a : AS} {ρ : YR} {w : Nat} {r0 : Int32} (C : cx p s m args meth c D E (Aof (mx M a, ρ) [] s.heap.size) cX9_stateIn 2 "TradeLineModel") (hr : meth.sig.returnType = (some .int)) (hz : s.heap.size = sz) (hρ : rsh ρ) {x1 : Int32}   (h : f_X9_stateIn  w a x1 = some r0) : G p l e ({ frames := 1, cells := 0, slots := 0, locals := 21 } : Room) s m args below meth c D E (Aof (mx M a, ρ) [] s.heap.size) 2 (MQ below (cQ D E sz (mx M a, ρ) [] (pI (fun r u => r = r0 ∧ u = ((mx M a, ρ), [])))) args s 0 0 (Aof (mx M a, ρ) [] s.heap.size)) (mx M a, ρ) [] 0 0 0 [(0, .ref (ρ.2.2.2 40 0)), (1, .int x1)] [] := by
  unfold f_X9_stateIn at h
  refine g_aload_n C dX9_stateIn_0 rfl 0 rfl ?_
  refine g_iload_n C dX9_stateIn_1 rfl 1 rfl ?_
  obtain ⟨v1, hv1, h⟩ := bind_of h
  refine g_cVi (n := 1) (exc := []) (exr := []) C [_] _ rfl rfl [] [] rfl rfl rfl rfl (fun _ h => absurd h (by simp)) (fun _ h => absurd h (by simp)) (fun _ h => absurd h (by simp)) (fun sz => k_X9_isPending l M ρ hρ w _ _ _ hv1 D E sz) rfl gw_1687 gw_9 gw_1684 gw_1686 gs_77 ⟨by decide +kernel, by decide +kernel, by decide +kernel⟩ ⟨rfl, rfl⟩ ⟨Nat.le_of_ble_eq_true rfl, Nat.le_of_ble_eq_true rfl⟩ (rcvT (lvY0 hρ) rfl rfl rfl) (Nat.le_of_ble_eq_true rfl) dX9_stateIn_2 ⟨by decide, by decide⟩ (fun r u hp hx => ?_)
  obtain ⟨er, rfl⟩ := hp
  rw [er]
  try dsimp only [List.append_nil]
  refine g_if_eq (tgt := 12) C dX9_stateIn_5 (by decide) (fun c5 => ?_) (fun c5 => ?_)
  · replace h := (if_pos c5).symm.trans h
    refine g_aload_n C dX9_stateIn_12 rfl 0 rfl ?_
    refine g_iload_n C dX9_stateIn_13 rfl 1 rfl ?_
    obtain ⟨v2, hv2, h⟩ := bind_of h
    refine g_cVi (n := 1) (exc := []) (exr := []) C [_] _ rfl rfl [] [] rfl rfl rfl rfl (fun _ h => absurd h (by simp)) (fun _ h => absurd h (by simp)) (fun _ h => absurd h (by simp)) (fun sz => k_X9_leftIn l M ρ hρ w _ _ _ hv2 D E sz) rfl gw_1563 gw_9 gw_1560 gw_1562 gs_59 ⟨by decide +kernel, by decide +kernel, by decide +kernel⟩ ⟨rfl, rfl⟩ ⟨Nat.le_of_ble_eq_true rfl, Nat.le_of_ble_eq_true rfl⟩ (rcvT (lvY0 hρ) rfl rfl rfl) (Nat.le_of_ble_eq_true rfl) dX9_stateIn_14 ⟨by decide, by decide⟩ (fun r u hp hx => ?_)
    obtain ⟨er, rfl⟩ := hp
    rw [er]
    try dsimp only [List.append_nil]
    refine g_if_le (tgt := 24) C dX9_stateIn_17 (by decide) (fun c17 => ?_) (fun c17 => ?_)
    · replace h := (if_pos c17).symm.trans h
      refine g_iconst (v := (2 : Int32)) C dX9_stateIn_24 (by decide) ?_
      exact g_iret C hr rfl hz ⟨rfl, rfl, fun _ => rfl, fun _ => rfl⟩ ⟨Option.some.inj h, rfl⟩ (fun j x h => by simp at h) dX9_stateIn_25
    · replace h := (if_neg c17).symm.trans h
      refine g_iconst (v := (1 : Int32)) C dX9_stateIn_20 (by decide) ?_
      refine g_goto (tgt := 25) C dX9_stateIn_21 (by decide) ?_
      exact g_iret C hr rfl hz ⟨rfl, rfl, fun _ => rfl, fun _ => rfl⟩ ⟨Option.some.inj h, rfl⟩ (fun j x h => by simp at h) dX9_stateIn_25
  · replace h := (if_neg c5).symm.trans h
    refine g_iconst (v := (0 : Int32)) C dX9_stateIn_8 (by decide) ?_
    refine g_goto (tgt := 25) C dX9_stateIn_9 (by decide) ?_
    exact g_iret C hr rfl hz ⟨rfl, rfl, fun _ => rfl, fun _ => rfl⟩ ⟨Option.some.inj h, rfl⟩ (fun j x h => by simp at h) dX9_stateIn_25
theorem k_X9_stateIn (l : Launch) (M : Nat → Nat → Nat → Int32) (ρ : YR) (hρ : rsh ρ) (w : Nat) (a : AS) (x1 : Int32) (r0 : Int32) (h : f_X9_stateIn w a x1 = some r0) : ∀ D E sz, Met l yX9_stateIn gwX9_stateIn ({ frames := 1, cells := 0, slots := 0, locals := 21 } : Room) (cP D E sz (mx M a, ρ) [] [.ref (ρ.2.2.2 40 0), .int x1]) (cQ D E sz (mx M a, ρ) [] (pI (fun r u => r = r0 ∧ u = ((mx M a, ρ), [])))) (0) (0) (Aof (mx M a, ρ) [] sz) := by
  intro D E sz
  refine g_of (cc := cX9_stateIn) (maxL := 2) (ret := (some .int)) (own := "TradeLineModel") (by decide) rfl rfl (Nat.le_of_ble_eq_true rfl) ?_
  intro p e s m args below meth c C hr hin hz ha hwr
  refine g_lv [0, 1] rfl ?_
  exact lb_X9_stateIn_0 C hr hz hρ h
