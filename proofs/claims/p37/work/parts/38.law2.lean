noncomputable def f_L_price  (w : Nat) (a : AS) (x0 : Int64) (x2 : Int32)  : Option (Int32) := some (Int64.toInt32 ((x0 >>> (Int32.toInt64 x2 &&& 63)) &&& (127 : Int64)))
set_option maxHeartbeats 4000000 in
set_option maxRecDepth 100000 in
theorem lb_L_price_0 {p : Program} {l : Launch} {e : Env} {s : State} {m : MethodId} {args : Array Value} {below : List Frame} {meth : Method} {c : Code} {D : va_G} {E : Nat → ClassId} {sz : Nat} {M : Nat → Nat → Nat → Int32} {a : AS} {ρ : YR} {w : Nat} {r0 : Int32} (C : cx p s m args meth c D E (Aof (mx M a, ρ) [] s.heap.size) cL_price 3 "TradeLineLaw") (hr : meth.sig.returnType = (some .int)) (hz : s.heap.size = sz) (hρ : rsh ρ) {x0 : Int64} {x2 : Int32}    (h : f_L_price  w a x0 x2  = some r0) : G p l e ({ frames := 0, cells := 0, slots := 0, locals := 0 } : Room) s m args below meth c D E (Aof (mx M a, ρ) [] s.heap.size) 3 (MQ below (cQ D E sz (mx M a, ρ) [] (pI (fun r u => r = r0 ∧ u = ((mx M a, ρ), [])))) args s 0 0 (Aof (mx M a, ρ) [] s.heap.size)) (mx M a, ρ) [] 0 0 0 [(0, .long x0), (2, .int x2)] [] := by
  unfold f_L_price at h
  refine g_lload_n C dL_price_0 rfl 0 rfl ?_
  refine g_iload_n C dL_price_1 rfl 1 rfl ?_
  refine g_lshr C dL_price_2 ?_
  refine g_ldc2 (v := (127 : Int64)) C gw_1017 dL_price_3 ?_
  refine g_land C dL_price_6 ?_
  refine g_l2i C dL_price_7 ?_
  exact g_iret C hr rfl hz ⟨rfl, rfl, fun _ => rfl, fun _ => rfl⟩ ⟨Option.some.inj h, rfl⟩ (fun j x h => by simp at h) dL_price_8
theorem k_L_price (l : Launch) (M : Nat → Nat → Nat → Int32) (ρ : YR) (hρ : rsh ρ) (w : Nat) (a : AS) (x0 : Int64) (x2 : Int32) (r0 : Int32) (h : f_L_price w a x0 x2 = some r0) : ∀ D E sz, Met l yL_price gwL_price ({ frames := 0, cells := 0, slots := 0, locals := 0 } : Room) (cP D E sz (mx M a, ρ) [] [.long x0, .int x2]) (cQ D E sz (mx M a, ρ) [] (pI (fun r u => r = r0 ∧ u = ((mx M a, ρ), [])))) (0) (0) (Aof (mx M a, ρ) [] sz) := by
  intro D E sz
  refine g_of (cc := cL_price) (maxL := 3) (ret := (some .int)) (own := "TradeLineLaw") (by decide) rfl rfl (Nat.le_of_ble_eq_true rfl) ?_
  intro p e s m args below meth c C hr hin hz ha hwr
  refine g_lv [0, 1] rfl ?_
  exact lb_L_price_0 C hr hz hρ h
noncomputable def f_L_size  (w : Nat) (a : AS) (x0 : Int64)  : Option (Int32) := some (Int64.toInt32 ((x0 >>> (Int32.toInt64 (14 : Int32) &&& 63)) &&& (127 : Int64)))
set_option maxHeartbeats 4000000 in
set_option maxRecDepth 100000 in
theorem lb_L_size_0 {p : Program} {l : Launch} {e : Env} {s : State} {m : MethodId} {args : Array Value} {below : List Frame} {meth : Method} {c : Code} {D : va_G} {E : Nat → ClassId} {sz : Nat} {M : Nat → Nat → Nat → Int32} {a : AS} {ρ : YR} {w : Nat} {r0 : Int32} (C : cx p s m args meth c D E (Aof (mx M a, ρ) [] s.heap.size) cL_size 2 "TradeLineLaw") (hr : meth.sig.returnType = (some .int)) (hz : s.heap.size = sz) (hρ : rsh ρ) {x0 : Int64}    (h : f_L_size  w a x0  = some r0) : G p l e ({ frames := 0, cells := 0, slots := 0, locals := 0 } : Room) s m args below meth c D E (Aof (mx M a, ρ) [] s.heap.size) 2 (MQ below (cQ D E sz (mx M a, ρ) [] (pI (fun r u => r = r0 ∧ u = ((mx M a, ρ), [])))) args s 0 0 (Aof (mx M a, ρ) [] s.heap.size)) (mx M a, ρ) [] 0 0 0 [(0, .long x0)] [] := by
  unfold f_L_size at h
  refine g_lload_n C dL_size_0 rfl 0 rfl ?_
  refine g_bipush (v := (14 : Int32)) C dL_size_1 (by decide) ?_
  refine g_lshr C dL_size_3 ?_
  refine g_ldc2 (v := (127 : Int64)) C gw_1017 dL_size_4 ?_
  refine g_land C dL_size_7 ?_
  refine g_l2i C dL_size_8 ?_
  exact g_iret C hr rfl hz ⟨rfl, rfl, fun _ => rfl, fun _ => rfl⟩ ⟨Option.some.inj h, rfl⟩ (fun j x h => by simp at h) dL_size_9
theorem k_L_size (l : Launch) (M : Nat → Nat → Nat → Int32) (ρ : YR) (hρ : rsh ρ) (w : Nat) (a : AS) (x0 : Int64) (r0 : Int32) (h : f_L_size w a x0 = some r0) : ∀ D E sz, Met l yL_size gwL_size ({ frames := 0, cells := 0, slots := 0, locals := 0 } : Room) (cP D E sz (mx M a, ρ) [] [.long x0]) (cQ D E sz (mx M a, ρ) [] (pI (fun r u => r = r0 ∧ u = ((mx M a, ρ), [])))) (0) (0) (Aof (mx M a, ρ) [] sz) := by
  intro D E sz
  refine g_of (cc := cL_size) (maxL := 2) (ret := (some .int)) (own := "TradeLineLaw") (by decide) rfl rfl (Nat.le_of_ble_eq_true rfl) ?_
  intro p e s m args below meth c C hr hin hz ha hwr
  refine g_lv [0] rfl ?_
  exact lb_L_size_0 C hr hz hρ h
noncomputable def b_L_trader_191  (w : Nat) (a : AS) (x8 : Int32) (x9 : Int32) (x10 : Int32) (x11 : Int32)  : Option (AS × Int32) := (if x8 < (5 : Int32) then (some (a, (0 : Int32))) else (bif ixB x10 60 then (if (lcv (((lgA a 13 x10.toNatClampNeg) >>> (Int32.toInt64 (42 : Int32) &&& 63)) &&& (1 : Int64)) (0 : Int64)) = (0 : Int32) then (some (a, (0 : Int32))) else ((if x8 = (5 : Int32) then (bif ixB x9 20 then (f_L_size w a (lgA a 13 x10.toNatClampNeg)).bind (fun v8 => yl (up2 a 10 x9.toNatClampNeg ((a 10 x9.toNatClampNeg) - v8)) (fun a9 => (f_L_size w a9 (lgA a9 13 x10.toNatClampNeg)).bind (fun v10 => yl (up2 a9 11 x9.toNatClampNeg ((a9 11 x9.toNatClampNeg) + v10)) (fun a11 => yl (wLg a11 13 x10.toNatClampNeg ((lgA a11 13 x10.toNatClampNeg) ||| (17592186044416 : Int64))) (fun a12 => some (a12, (0 : Int32))))))) else none) else (yl (wLg a 13 x10.toNatClampNeg (((lgA a 13 x10.toNatClampNeg) &&& (-4363686772737 : Int64)) ||| ((Int32.toInt64 x11) <<< (Int32.toInt64 (35 : Int32) &&& 63)))) (fun a6 => some (a6, (0 : Int32))))))) else none))
set_option maxHeartbeats 4000000 in
set_option maxRecDepth 100000 in
theorem lb_L_trader_191 {p : Program} {l : Launch} {e : Env} {s : State} {m : MethodId} {args : Array Value} {below : List Frame} {meth : Method} {c : Code} {D : va_G} {E : Nat → ClassId} {sz : Nat} {M : Nat → Nat → Nat → Int32} {a0 : AS} {ρ : YR} {w : Nat} {r0 : AS × Int32} (C : cx p s m args meth c D E (Aof (mx M a0, ρ) [] s.heap.size) cL_trader 13 "TradeLineLaw") (hr : meth.sig.returnType = none) (hz : s.heap.size = sz) (hρ : rsh ρ) {a : AS} {x8 : Int32} {x9 : Int32} {x10 : Int32} {x11 : Int32}    (h : b_L_trader_191  w a x8 x9 x10 x11  = some r0) : G p l e ({ frames := 1, cells := 0, slots := 0, locals := 22 } : Room) s m args below meth c D E (Aof (mx M a0, ρ) [] s.heap.size) 13 (MQ below (cQ D E sz (mx M a0, ρ) [] (pV (fun u => u = ((mx M r0.1, ρ), [])))) args s 0 0 (Aof (mx M a0, ρ) [] s.heap.size)) (mx M a, ρ) [] 0 0 191 [(2, .ref (ρ.2.2.2 (40 + 10) 0)), (3, .ref (ρ.2.2.2 (40 + 11) 0)), (5, .ref (ρ.2.2.2 (40 + 13) 0)), (8, .int x8), (9, .int x9), (10, .int x10), (11, .int x11)] [] := by
  unfold b_L_trader_191 at h
  refine g_iload C dL_trader_191 3 rfl ?_
  refine g_iconst (v := (5 : Int32)) C dL_trader_193 (by decide) ?_
  refine g_icmp_lt (tgt := 212) C dL_trader_194 (by decide) (fun c194 => ?_) (fun c194 => ?_)
  · replace h := (if_pos c194).symm.trans h
    obtain rfl := Option.some.inj h
    exact g_vret C hr hz ⟨rfl, rfl, fun _ => rfl, fun _ => rfl⟩ rfl (fun j x h => by simp at h) dL_trader_212
  · replace h := (if_neg c194).symm.trans h
    refine g_aload C dL_trader_197 2 rfl ?_
    refine g_iload C dL_trader_199 5 rfl ?_
    obtain ⟨g5, h⟩ := of_guard h
    refine q_lald C hρ (j := 13) (N := 60) (by decide) rfl g5 dL_trader_201 ?_
    refine g_bipush (v := (42 : Int32)) C dL_trader_202 (by decide) ?_
    refine g_lshr C dL_trader_204 ?_
    refine g_lconst (v := (1 : Int64)) C dL_trader_205 (by decide) ?_
    refine g_land C dL_trader_206 ?_
    refine g_lconst (v := (0 : Int64)) C dL_trader_207 (by decide) ?_
    refine g_lcmp C dL_trader_208 ?_
    refine g_if_ne (tgt := 213) C dL_trader_209 (by decide) (fun c209 => ?_) (fun c209 => ?_)
    · replace h := (if_neg c209).symm.trans h
      refine g_iload C dL_trader_213 3 rfl ?_
      refine g_iconst (v := (5 : Int32)) C dL_trader_215 (by decide) ?_
      refine g_icmp_ne (tgt := 263) C dL_trader_216 (by decide) (fun c216 => ?_) (fun c216 => ?_)
      · replace h := (if_neg c216).symm.trans h
        refine g_aload C dL_trader_263 2 rfl ?_
        refine g_iload C dL_trader_265 5 rfl ?_
        refine g_aload C dL_trader_267 2 rfl ?_
        refine g_iload C dL_trader_269 5 rfl ?_
        refine q_lald C hρ (j := 13) (N := 60) (by decide) rfl g5 dL_trader_271 ?_
        refine g_ldc2 (v := (-4363686772737 : Int64)) C gw_1018 dL_trader_272 ?_
        refine g_land C dL_trader_275 ?_
        refine g_iload C dL_trader_276 6 rfl ?_
        refine g_i2l C dL_trader_278 rfl ?_
        refine g_bipush (v := (35 : Int32)) C dL_trader_279 (by decide) ?_
        refine g_lshl C dL_trader_281 ?_
        refine g_lor C dL_trader_282 ?_
        refine q_last C hρ (j := 13) (N := 60) (by decide) rfl g5 dL_trader_283 (fun a6 ea6 => ?_)
        replace h := yl_of h ea6
        obtain rfl := Option.some.inj h
        exact g_vret C hr hz ⟨rfl, rfl, fun _ => rfl, fun _ => rfl⟩ rfl (fun j x h => by simp at h) dL_trader_284
      · replace h := (if_pos c216).symm.trans h
        refine g_aload_n C dL_trader_219 rfl 0 rfl ?_
        refine g_iload C dL_trader_220 4 rfl ?_
        refine g_dup2 C dL_trader_222 rfl rfl ?_
        obtain ⟨g7, h⟩ := of_guard h
        refine q_iald C hρ (j := 10) (N := 20) (by decide) rfl g7 dL_trader_223 ?_
        refine g_aload C dL_trader_224 2 rfl ?_
        refine g_iload C dL_trader_226 5 rfl ?_
        refine q_lald C hρ (j := 13) (N := 60) (by decide) rfl g5 dL_trader_228 ?_
        obtain ⟨v8, hv8, h⟩ := bind_of h
        refine g_cSi (n := 1) (exc := []) (exr := []) C [_] _ rfl rfl [] [] rfl rfl rfl rfl (fun _ h => absurd h (by simp)) (fun _ h => absurd h (by simp)) (fun _ h => absurd h (by simp)) (fun sz => k_L_size l M ρ hρ w _ _ _ hv8 D E sz) rfl gw_1016 gw_0 gw_1014 gw_1015 ⟨by decide +kernel, by decide +kernel, by decide +kernel⟩ ⟨rfl, rfl⟩ ⟨Nat.le_of_ble_eq_true rfl, Nat.le_of_ble_eq_true rfl⟩ (Nat.le_of_ble_eq_true rfl) dL_trader_229 ⟨by decide, by decide⟩ (fun r u hp hx => ?_)
        obtain ⟨er, rfl⟩ := hp
        rw [er]
        try dsimp only [List.append_nil]
        refine g_isub C dL_trader_232 ?_
        refine q_iast C hρ (j := 10) (N := 20) (by decide) rfl g7 dL_trader_233 (fun a9 ea9 => ?_)
        replace h := yl_of h ea9
        refine g_aload_n C dL_trader_234 rfl 1 rfl ?_
        refine g_iload C dL_trader_235 4 rfl ?_
        refine g_dup2 C dL_trader_237 rfl rfl ?_
        refine q_iald C hρ (j := 11) (N := 20) (by decide) rfl g7 dL_trader_238 ?_
        refine g_aload C dL_trader_239 2 rfl ?_
        refine g_iload C dL_trader_241 5 rfl ?_
        refine q_lald C hρ (j := 13) (N := 60) (by decide) rfl g5 dL_trader_243 ?_
        obtain ⟨v10, hv10, h⟩ := bind_of h
        refine g_cSi (n := 1) (exc := []) (exr := []) C [_] _ rfl rfl [] [] rfl rfl rfl rfl (fun _ h => absurd h (by simp)) (fun _ h => absurd h (by simp)) (fun _ h => absurd h (by simp)) (fun sz => k_L_size l M ρ hρ w _ _ _ hv10 D E sz) rfl gw_1016 gw_0 gw_1014 gw_1015 ⟨by decide +kernel, by decide +kernel, by decide +kernel⟩ ⟨rfl, rfl⟩ ⟨Nat.le_of_ble_eq_true rfl, Nat.le_of_ble_eq_true rfl⟩ (Nat.le_of_ble_eq_true rfl) dL_trader_244 ⟨by decide, by decide⟩ (fun r u hp hx => ?_)
        obtain ⟨er, rfl⟩ := hp
        rw [er]
        try dsimp only [List.append_nil]
        refine g_iadd C dL_trader_247 ?_
        refine q_iast C hρ (j := 11) (N := 20) (by decide) rfl g7 dL_trader_248 (fun a11 ea11 => ?_)
        replace h := yl_of h ea11
        refine g_aload C dL_trader_249 2 rfl ?_
        refine g_iload C dL_trader_251 5 rfl ?_
        refine g_dup2 C dL_trader_253 rfl rfl ?_
        refine q_lald C hρ (j := 13) (N := 60) (by decide) rfl g5 dL_trader_254 ?_
        refine g_ldc2 (v := (17592186044416 : Int64)) C gw_1023 dL_trader_255 ?_
        refine g_lor C dL_trader_258 ?_
        refine q_last C hρ (j := 13) (N := 60) (by decide) rfl g5 dL_trader_259 (fun a12 ea12 => ?_)
        replace h := yl_of h ea12
        refine g_goto (tgt := 284) C dL_trader_260 (by decide) ?_
        obtain rfl := Option.some.inj h
        exact g_vret C hr hz ⟨rfl, rfl, fun _ => rfl, fun _ => rfl⟩ rfl (fun j x h => by simp at h) dL_trader_284
    · replace h := (if_pos c209).symm.trans h
      obtain rfl := Option.some.inj h
      exact g_vret C hr hz ⟨rfl, rfl, fun _ => rfl, fun _ => rfl⟩ rfl (fun j x h => by simp at h) dL_trader_212
noncomputable def b_L_trader_156  (w : Nat) (a : AS) (x8 : Int32) (x9 : Int32) (x10 : Int32) (x11 : Int32)  : Option (AS × Int32) := (if x8 ≤ (1 : Int32) then (b_L_trader_191  w a x8 x9 x10 x11) else ((if (5 : Int32) ≤ x8 then (b_L_trader_191  w a x8 x9 x10 x11) else (bif ixB x9 10 then (if (((a 12 x9.toNatClampNeg) >>> ((4 : Int32) &&& 31)) &&& (7 : Int32)) ≤ (0 : Int32) then (b_L_trader_191  w a x8 x9 x10 x11) else (yl (up2 a 12 x9.toNatClampNeg ((a 12 x9.toNatClampNeg) - (16 : Int32))) (fun a14 => b_L_trader_191  w a14 x8 x9 x10 x11))) else none))))
set_option maxHeartbeats 4000000 in
set_option maxRecDepth 100000 in
theorem lb_L_trader_156 {p : Program} {l : Launch} {e : Env} {s : State} {m : MethodId} {args : Array Value} {below : List Frame} {meth : Method} {c : Code} {D : va_G} {E : Nat → ClassId} {sz : Nat} {M : Nat → Nat → Nat → Int32} {a0 : AS} {ρ : YR} {w : Nat} {r0 : AS × Int32} (C : cx p s m args meth c D E (Aof (mx M a0, ρ) [] s.heap.size) cL_trader 13 "TradeLineLaw") (hr : meth.sig.returnType = none) (hz : s.heap.size = sz) (hρ : rsh ρ) {a : AS} {x8 : Int32} {x9 : Int32} {x10 : Int32} {x11 : Int32}    (h : b_L_trader_156  w a x8 x9 x10 x11  = some r0) : G p l e ({ frames := 1, cells := 0, slots := 0, locals := 22 } : Room) s m args below meth c D E (Aof (mx M a0, ρ) [] s.heap.size) 13 (MQ below (cQ D E sz (mx M a0, ρ) [] (pV (fun u => u = ((mx M r0.1, ρ), [])))) args s 0 0 (Aof (mx M a0, ρ) [] s.heap.size)) (mx M a, ρ) [] 0 0 156 [(2, .ref (ρ.2.2.2 (40 + 10) 0)), (3, .ref (ρ.2.2.2 (40 + 11) 0)), (4, .ref (ρ.2.2.2 (40 + 12) 0)), (5, .ref (ρ.2.2.2 (40 + 13) 0)), (8, .int x8), (9, .int x9), (10, .int x10), (11, .int x11)] [] := by
  unfold b_L_trader_156 at h
  refine g_iload C dL_trader_156 4 rfl ?_
  refine g_iconst (v := (1 : Int32)) C dL_trader_158 (by decide) ?_
  refine g_icmp_le (tgt := 191) C dL_trader_159 (by decide) (fun c159 => ?_) (fun c159 => ?_)
  · replace h := (if_pos c159).symm.trans h
    refine g_lv [0, 1, 3, 4, 5, 6, 7] rfl ?_
    exact lb_L_trader_191 C hr hz hρ  h
  · replace h := (if_neg c159).symm.trans h
    refine g_iload C dL_trader_162 4 rfl ?_
    refine g_iconst (v := (5 : Int32)) C dL_trader_164 (by decide) ?_
    refine g_icmp_ge (tgt := 191) C dL_trader_165 (by decide) (fun c165 => ?_) (fun c165 => ?_)
    · replace h := (if_pos c165).symm.trans h
      refine g_lv [0, 1, 3, 4, 5, 6, 7] rfl ?_
      exact lb_L_trader_191 C hr hz hρ  h
    · replace h := (if_neg c165).symm.trans h
      refine g_aload C dL_trader_168 2 rfl ?_
      refine g_iload C dL_trader_170 5 rfl ?_
      obtain ⟨g13, h⟩ := of_guard h
      refine q_iald C hρ (j := 12) (N := 10) (by decide) rfl g13 dL_trader_172 ?_
      refine g_iconst (v := (4 : Int32)) C dL_trader_173 (by decide) ?_
      refine g_ishr C dL_trader_174 ?_
      refine g_bipush (v := (7 : Int32)) C dL_trader_175 (by decide) ?_
      refine g_iand C dL_trader_177 ?_
      refine g_if_le (tgt := 191) C dL_trader_178 (by decide) (fun c178 => ?_) (fun c178 => ?_)
      · replace h := (if_pos c178).symm.trans h
        refine g_lv [0, 1, 3, 4, 5, 6, 7] rfl ?_
        exact lb_L_trader_191 C hr hz hρ  h
      · replace h := (if_neg c178).symm.trans h
        refine g_aload C dL_trader_181 2 rfl ?_
        refine g_iload C dL_trader_183 5 rfl ?_
        refine g_dup2 C dL_trader_185 rfl rfl ?_
        refine q_iald C hρ (j := 12) (N := 10) (by decide) rfl g13 dL_trader_186 ?_
        refine g_bipush (v := (16 : Int32)) C dL_trader_187 (by decide) ?_
        refine g_isub C dL_trader_189 ?_
        refine q_iast C hρ (j := 12) (N := 10) (by decide) rfl g13 dL_trader_190 (fun a14 ea14 => ?_)
        replace h := yl_of h ea14
        refine g_lv [0, 1, 3, 4, 5, 6, 7] rfl ?_
        exact lb_L_trader_191 C hr hz hρ  h
noncomputable def b_L_trader_138  (w : Nat) (a : AS) (x8 : Int32) (x9 : Int32) (x10 : Int32) (x11 : Int32)  : Option (AS × Int32) := (if x8 = (3 : Int32) then (bif ixB x9 20 then yl (up2 a 8 x9.toNatClampNeg x10) (fun a16 => yl (up2 a16 9 x9.toNatClampNeg x11) (fun a17 => b_L_trader_156  w a17 x8 x9 x10 x11)) else none) else (b_L_trader_156  w a x8 x9 x10 x11))
set_option maxHeartbeats 4000000 in
set_option maxRecDepth 100000 in
theorem lb_L_trader_138 {p : Program} {l : Launch} {e : Env} {s : State} {m : MethodId} {args : Array Value} {below : List Frame} {meth : Method} {c : Code} {D : va_G} {E : Nat → ClassId} {sz : Nat} {M : Nat → Nat → Nat → Int32} {a0 : AS} {ρ : YR} {w : Nat} {r0 : AS × Int32} (C : cx p s m args meth c D E (Aof (mx M a0, ρ) [] s.heap.size) cL_trader 13 "TradeLineLaw") (hr : meth.sig.returnType = none) (hz : s.heap.size = sz) (hρ : rsh ρ) {a : AS} {x8 : Int32} {x9 : Int32} {x10 : Int32} {x11 : Int32}    (h : b_L_trader_138  w a x8 x9 x10 x11  = some r0) : G p l e ({ frames := 1, cells := 0, slots := 0, locals := 22 } : Room) s m args below meth c D E (Aof (mx M a0, ρ) [] s.heap.size) 13 (MQ below (cQ D E sz (mx M a0, ρ) [] (pV (fun u => u = ((mx M r0.1, ρ), [])))) args s 0 0 (Aof (mx M a0, ρ) [] s.heap.size)) (mx M a, ρ) [] 0 0 138 [(0, .ref (ρ.2.2.2 (40 + 8) 0)), (1, .ref (ρ.2.2.2 (40 + 9) 0)), (2, .ref (ρ.2.2.2 (40 + 10) 0)), (3, .ref (ρ.2.2.2 (40 + 11) 0)), (4, .ref (ρ.2.2.2 (40 + 12) 0)), (5, .ref (ρ.2.2.2 (40 + 13) 0)), (8, .int x8), (9, .int x9), (10, .int x10), (11, .int x11)] [] := by
  unfold b_L_trader_138 at h
  refine g_iload C dL_trader_138 6 rfl ?_
  refine g_iconst (v := (3 : Int32)) C dL_trader_140 (by decide) ?_
  refine g_icmp_ne (tgt := 156) C dL_trader_141 (by decide) (fun c141 => ?_) (fun c141 => ?_)
  · replace h := (if_neg c141).symm.trans h
    refine g_lv [2, 3, 4, 5, 6, 7, 8, 9] rfl ?_
    exact lb_L_trader_156 C hr hz hρ  h
  · replace h := (if_pos c141).symm.trans h
    refine g_aload_n C dL_trader_144 rfl 0 rfl ?_
    refine g_iload C dL_trader_145 7 rfl ?_
    refine g_iload C dL_trader_147 8 rfl ?_
    obtain ⟨g15, h⟩ := of_guard h
    refine q_iast C hρ (j := 8) (N := 20) (by decide) rfl g15 dL_trader_149 (fun a16 ea16 => ?_)
    replace h := yl_of h ea16
    refine g_aload_n C dL_trader_150 rfl 1 rfl ?_
    refine g_iload C dL_trader_151 7 rfl ?_
    refine g_iload C dL_trader_153 9 rfl ?_
    refine q_iast C hρ (j := 9) (N := 20) (by decide) rfl g15 dL_trader_155 (fun a17 ea17 => ?_)
    replace h := yl_of h ea17
    refine g_lv [2, 3, 4, 5, 6, 7, 8, 9] rfl ?_
    exact lb_L_trader_156 C hr hz hρ  h
noncomputable def b_L_trader_123  (w : Nat) (a : AS) (x8 : Int32) (x9 : Int32) (x10 : Int32) (x11 : Int32)  : Option (AS × Int32) := (if x8 = (2 : Int32) then (bif ixB x9 20 then yl (up2 a 11 x9.toNatClampNeg ((a 11 x9.toNatClampNeg) + x10)) (fun a19 => b_L_trader_138  w a19 x8 x9 x10 x11) else none) else (b_L_trader_138  w a x8 x9 x10 x11))
set_option maxHeartbeats 4000000 in
set_option maxRecDepth 100000 in
theorem lb_L_trader_123 {p : Program} {l : Launch} {e : Env} {s : State} {m : MethodId} {args : Array Value} {below : List Frame} {meth : Method} {c : Code} {D : va_G} {E : Nat → ClassId} {sz : Nat} {M : Nat → Nat → Nat → Int32} {a0 : AS} {ρ : YR} {w : Nat} {r0 : AS × Int32} (C : cx p s m args meth c D E (Aof (mx M a0, ρ) [] s.heap.size) cL_trader 13 "TradeLineLaw") (hr : meth.sig.returnType = none) (hz : s.heap.size = sz) (hρ : rsh ρ) {a : AS} {x8 : Int32} {x9 : Int32} {x10 : Int32} {x11 : Int32}    (h : b_L_trader_123  w a x8 x9 x10 x11  = some r0) : G p l e ({ frames := 1, cells := 0, slots := 0, locals := 22 } : Room) s m args below meth c D E (Aof (mx M a0, ρ) [] s.heap.size) 13 (MQ below (cQ D E sz (mx M a0, ρ) [] (pV (fun u => u = ((mx M r0.1, ρ), [])))) args s 0 0 (Aof (mx M a0, ρ) [] s.heap.size)) (mx M a, ρ) [] 0 0 123 [(0, .ref (ρ.2.2.2 (40 + 8) 0)), (1, .ref (ρ.2.2.2 (40 + 9) 0)), (2, .ref (ρ.2.2.2 (40 + 10) 0)), (3, .ref (ρ.2.2.2 (40 + 11) 0)), (4, .ref (ρ.2.2.2 (40 + 12) 0)), (5, .ref (ρ.2.2.2 (40 + 13) 0)), (8, .int x8), (9, .int x9), (10, .int x10), (11, .int x11)] [] := by
  unfold b_L_trader_123 at h
  refine g_iload C dL_trader_123 6 rfl ?_
  refine g_iconst (v := (2 : Int32)) C dL_trader_125 (by decide) ?_
  refine g_icmp_ne (tgt := 138) C dL_trader_126 (by decide) (fun c126 => ?_) (fun c126 => ?_)
  · replace h := (if_neg c126).symm.trans h
    refine g_lv [0, 1, 2, 3, 4, 5, 6, 7, 8, 9] rfl ?_
    exact lb_L_trader_138 C hr hz hρ  h
  · replace h := (if_pos c126).symm.trans h
    refine g_aload_n C dL_trader_129 rfl 3 rfl ?_
    refine g_iload C dL_trader_130 7 rfl ?_
    refine g_dup2 C dL_trader_132 rfl rfl ?_
    obtain ⟨g18, h⟩ := of_guard h
    refine q_iald C hρ (j := 11) (N := 20) (by decide) rfl g18 dL_trader_133 ?_
    refine g_iload C dL_trader_134 8 rfl ?_
    refine g_iadd C dL_trader_136 ?_
    refine q_iast C hρ (j := 11) (N := 20) (by decide) rfl g18 dL_trader_137 (fun a19 ea19 => ?_)
    replace h := yl_of h ea19
    refine g_lv [0, 1, 2, 3, 4, 5, 6, 7, 8, 9] rfl ?_
    exact lb_L_trader_138 C hr hz hρ  h
noncomputable def b_L_trader_53 (k53 : AS → Int32 → Int32 → Int32 → Int32 → Int32 → Option (AS × Int32)) (w : Nat) (a : AS) (x8 : Int32) (x9 : Int32) (x10 : Int32) (x11 : Int32) (x12 : Int32)  : Option (AS × Int32) := (if (x10 + x11) ≤ x12 then (b_L_trader_123  w a x8 x9 x10 x11) else ((if x8 = (1 : Int32) then (bif ixB x9 20 then bif ixB x12 60 then (f_L_size w a (lgA a 13 x12.toNatClampNeg)).bind (fun v22 => yl (up2 a 10 x9.toNatClampNeg ((a 10 x9.toNatClampNeg) + v22)) (fun a23 => (f_L_price w a23 (lgA a23 13 x12.toNatClampNeg) (21 : Int32)).bind (fun v24 => yl (wLg a23 13 x12.toNatClampNeg ((((lgA a23 13 x12.toNatClampNeg) &&& (-4363686772737 : Int64)) ||| ((Int32.toInt64 v24) <<< (Int32.toInt64 (35 : Int32) &&& 63))) ||| (4398046511104 : Int64))) (fun a25 => yl (x12 + (1 : Int32)) (fun t26 => k53 a25 x8 x9 x10 x11 t26))))) else none else none) else (b_L_trader_123  w a x8 x9 x10 x11))))
set_option maxHeartbeats 4000000 in
set_option maxRecDepth 100000 in
theorem lb_L_trader_53 {p : Program} {l : Launch} {e : Env} {s : State} {m : MethodId} {args : Array Value} {below : List Frame} {meth : Method} {c : Code} {D : va_G} {E : Nat → ClassId} {sz : Nat} {M : Nat → Nat → Nat → Int32} {a0 : AS} {ρ : YR} {w : Nat} {r0 : AS × Int32} (C : cx p s m args meth c D E (Aof (mx M a0, ρ) [] s.heap.size) cL_trader 13 "TradeLineLaw") (hr : meth.sig.returnType = none) (hz : s.heap.size = sz) (hρ : rsh ρ) {a : AS} {x8 : Int32} {x9 : Int32} {x10 : Int32} {x11 : Int32} {x12 : Int32}  {k53 : AS → Int32 → Int32 → Int32 → Int32 → Int32 → Option (AS × Int32)} (hk53 : ∀ (a1 : AS) (z8 : Int32) (z9 : Int32) (z10 : Int32) (z11 : Int32) (z12 : Int32), k53 a1 z8 z9 z10 z11 z12 = some r0 → G p l e ({ frames := 1, cells := 0, slots := 0, locals := 22 } : Room) s m args below meth c D E (Aof (mx M a0, ρ) [] s.heap.size) 13 (MQ below (cQ D E sz (mx M a0, ρ) [] (pV (fun u => u = ((mx M r0.1, ρ), [])))) args s 0 0 (Aof (mx M a0, ρ) [] s.heap.size)) (mx M a1, ρ) [] 0 0 53 [(0, .ref (ρ.2.2.2 (40 + 8) 0)), (1, .ref (ρ.2.2.2 (40 + 9) 0)), (2, .ref (ρ.2.2.2 (40 + 10) 0)), (3, .ref (ρ.2.2.2 (40 + 11) 0)), (4, .ref (ρ.2.2.2 (40 + 12) 0)), (5, .ref (ρ.2.2.2 (40 + 13) 0)), (8, .int z8), (9, .int z9), (10, .int z10), (11, .int z11), (12, .int z12)] []) (h : b_L_trader_53 k53 w a x8 x9 x10 x11 x12  = some r0) : G p l e ({ frames := 1, cells := 0, slots := 0, locals := 22 } : Room) s m args below meth c D E (Aof (mx M a0, ρ) [] s.heap.size) 13 (MQ below (cQ D E sz (mx M a0, ρ) [] (pV (fun u => u = ((mx M r0.1, ρ), [])))) args s 0 0 (Aof (mx M a0, ρ) [] s.heap.size)) (mx M a, ρ) [] 0 0 53 [(0, .ref (ρ.2.2.2 (40 + 8) 0)), (1, .ref (ρ.2.2.2 (40 + 9) 0)), (2, .ref (ρ.2.2.2 (40 + 10) 0)), (3, .ref (ρ.2.2.2 (40 + 11) 0)), (4, .ref (ρ.2.2.2 (40 + 12) 0)), (5, .ref (ρ.2.2.2 (40 + 13) 0)), (8, .int x8), (9, .int x9), (10, .int x10), (11, .int x11), (12, .int x12)] [] := by
  unfold b_L_trader_53 at h
  refine g_iload C dL_trader_53 10 rfl ?_
  refine g_iload C dL_trader_55 8 rfl ?_
  refine g_iload C dL_trader_57 9 rfl ?_
  refine g_iadd C dL_trader_59 ?_
  refine g_icmp_ge (tgt := 123) C dL_trader_60 (by decide) (fun c60 => ?_) (fun c60 => ?_)
  · replace h := (if_pos c60).symm.trans h
    refine g_lv [0, 1, 2, 3, 4, 5, 6, 7, 8, 9] rfl ?_
    exact lb_L_trader_123 C hr hz hρ  h
  · replace h := (if_neg c60).symm.trans h
    refine g_iload C dL_trader_63 6 rfl ?_
    refine g_iconst (v := (1 : Int32)) C dL_trader_65 (by decide) ?_
    refine g_icmp_ne (tgt := 123) C dL_trader_66 (by decide) (fun c66 => ?_) (fun c66 => ?_)
    · replace h := (if_neg c66).symm.trans h
      refine g_lv [0, 1, 2, 3, 4, 5, 6, 7, 8, 9] rfl ?_
      exact lb_L_trader_123 C hr hz hρ  h
    · replace h := (if_pos c66).symm.trans h
      refine g_aload_n C dL_trader_69 rfl 2 rfl ?_
      refine g_iload C dL_trader_70 7 rfl ?_
      refine g_dup2 C dL_trader_72 rfl rfl ?_
      obtain ⟨g20, h⟩ := of_guard h
      refine q_iald C hρ (j := 10) (N := 20) (by decide) rfl g20 dL_trader_73 ?_
      refine g_aload C dL_trader_74 5 rfl ?_
      refine g_iload C dL_trader_76 10 rfl ?_
      obtain ⟨g21, h⟩ := of_guard h
      refine q_lald C hρ (j := 13) (N := 60) (by decide) rfl g21 dL_trader_78 ?_
      obtain ⟨v22, hv22, h⟩ := bind_of h
      refine g_cSi (n := 1) (exc := []) (exr := []) C [_] _ rfl rfl [] [] rfl rfl rfl rfl (fun _ h => absurd h (by simp)) (fun _ h => absurd h (by simp)) (fun _ h => absurd h (by simp)) (fun sz => k_L_size l M ρ hρ w _ _ _ hv22 D E sz) rfl gw_1016 gw_0 gw_1014 gw_1015 ⟨by decide +kernel, by decide +kernel, by decide +kernel⟩ ⟨rfl, rfl⟩ ⟨Nat.le_of_ble_eq_true rfl, Nat.le_of_ble_eq_true rfl⟩ (Nat.le_of_ble_eq_true rfl) dL_trader_79 ⟨by decide, by decide⟩ (fun r u hp hx => ?_)
      obtain ⟨er, rfl⟩ := hp
      rw [er]
      try dsimp only [List.append_nil]
      refine g_iadd C dL_trader_82 ?_
      refine q_iast C hρ (j := 10) (N := 20) (by decide) rfl g20 dL_trader_83 (fun a23 ea23 => ?_)
      replace h := yl_of h ea23
      refine g_aload C dL_trader_84 5 rfl ?_
      refine g_iload C dL_trader_86 10 rfl ?_
      refine g_aload C dL_trader_88 5 rfl ?_
      refine g_iload C dL_trader_90 10 rfl ?_
      refine q_lald C hρ (j := 13) (N := 60) (by decide) rfl g21 dL_trader_92 ?_
      refine g_ldc2 (v := (-4363686772737 : Int64)) C gw_1018 dL_trader_93 ?_
      refine g_land C dL_trader_96 ?_
      refine g_aload C dL_trader_97 5 rfl ?_
      refine g_iload C dL_trader_99 10 rfl ?_
      refine q_lald C hρ (j := 13) (N := 60) (by decide) rfl g21 dL_trader_101 ?_
      refine g_bipush (v := (21 : Int32)) C dL_trader_102 (by decide) ?_
      obtain ⟨v24, hv24, h⟩ := bind_of h
      refine g_cSi (n := 2) (exc := []) (exr := []) C [_, _] _ rfl rfl [] [] rfl rfl rfl rfl (fun _ h => absurd h (by simp)) (fun _ h => absurd h (by simp)) (fun _ h => absurd h (by simp)) (fun sz => k_L_price l M ρ hρ w _ _ _ _ hv24 D E sz) rfl gw_1021 gw_0 gw_1019 gw_1020 ⟨by decide +kernel, by decide +kernel, by decide +kernel⟩ ⟨rfl, rfl⟩ ⟨Nat.le_of_ble_eq_true rfl, Nat.le_of_ble_eq_true rfl⟩ (Nat.le_of_ble_eq_true rfl) dL_trader_104 ⟨by decide, by decide⟩ (fun r u hp hx => ?_)
      obtain ⟨er, rfl⟩ := hp
      rw [er]
      try dsimp only [List.append_nil]
      refine g_i2l C dL_trader_107 rfl ?_
      refine g_bipush (v := (35 : Int32)) C dL_trader_108 (by decide) ?_
      refine g_lshl C dL_trader_110 ?_
      refine g_lor C dL_trader_111 ?_
      refine g_ldc2 (v := (4398046511104 : Int64)) C gw_1022 dL_trader_112 ?_
      refine g_lor C dL_trader_115 ?_
      refine q_last C hρ (j := 13) (N := 60) (by decide) rfl g21 dL_trader_116 (fun a25 ea25 => ?_)
      replace h := yl_of h ea25
      obtain ⟨t26, et26⟩ : ∃ y : Int32, x12 + (1 : Int32) = y := ⟨_, rfl⟩
      replace h := yl_of h et26
      refine g_iinc (v := t26) (lv' := [(12, .int t26), (0, .ref (ρ.2.2.2 (40 + 8) 0)), (1, .ref (ρ.2.2.2 (40 + 9) 0)), (2, .ref (ρ.2.2.2 (40 + 10) 0)), (3, .ref (ρ.2.2.2 (40 + 11) 0)), (4, .ref (ρ.2.2.2 (40 + 12) 0)), (5, .ref (ρ.2.2.2 (40 + 13) 0)), (8, .int x8), (9, .int x9), (10, .int x10), (11, .int x11)]) C dL_trader_117 10 rfl (by rw [← et26]; rfl) (by decide) rfl ?_
      refine g_goto (tgt := 53) C dL_trader_120 (by decide) ?_
      refine g_lv [1, 2, 3, 4, 5, 6, 7, 8, 9, 10, 0] rfl ?_
      exact hk53 _ _ _ _ _ _ h
noncomputable def l_L_trader_53  (w : Nat) : Nat → AS → Int32 → Int32 → Int32 → Int32 → Int32 → Option (AS × Int32)
  | 0 => fun _ _ _ _ _ _ => none
  | n + 1 => fun a x8 x9 x10 x11 x12 => b_L_trader_53  (l_L_trader_53  w n) w a x8 x9 x10 x11 x12
theorem ll_L_trader_53 {p : Program} {l : Launch} {e : Env} {s : State} {m : MethodId} {args : Array Value} {below : List Frame} {meth : Method} {c : Code} {D : va_G} {E : Nat → ClassId} {sz : Nat} {M : Nat → Nat → Nat → Int32} {a0 : AS} {ρ : YR} {w : Nat} {r0 : AS × Int32} (C : cx p s m args meth c D E (Aof (mx M a0, ρ) [] s.heap.size) cL_trader 13 "TradeLineLaw") (hr : meth.sig.returnType = none) (hz : s.heap.size = sz) (hρ : rsh ρ)   : ∀ (n : Nat) (a : AS) (x8 : Int32) (x9 : Int32) (x10 : Int32) (x11 : Int32) (x12 : Int32), l_L_trader_53  w n a x8 x9 x10 x11 x12 = some r0 → G p l e ({ frames := 1, cells := 0, slots := 0, locals := 22 } : Room) s m args below meth c D E (Aof (mx M a0, ρ) [] s.heap.size) 13 (MQ below (cQ D E sz (mx M a0, ρ) [] (pV (fun u => u = ((mx M r0.1, ρ), [])))) args s 0 0 (Aof (mx M a0, ρ) [] s.heap.size)) (mx M a, ρ) [] 0 0 53 [(0, .ref (ρ.2.2.2 (40 + 8) 0)), (1, .ref (ρ.2.2.2 (40 + 9) 0)), (2, .ref (ρ.2.2.2 (40 + 10) 0)), (3, .ref (ρ.2.2.2 (40 + 11) 0)), (4, .ref (ρ.2.2.2 (40 + 12) 0)), (5, .ref (ρ.2.2.2 (40 + 13) 0)), (8, .int x8), (9, .int x9), (10, .int x10), (11, .int x11), (12, .int x12)] [] := by
  intro n
  induction n with
  | zero => exact fun a x8 x9 x10 x11 x12 h => absurd (show (none : Option (AS × Int32)) = some r0 from h) (by simp)
  | succ n ih => exact fun a x8 x9 x10 x11 x12 h => lb_L_trader_53 (w := w) C hr hz hρ  ih h
noncomputable def b_L_trader_49  (w : Nat) (a : AS) (x8 : Int32) (x9 : Int32) (x10 : Int32) (x11 : Int32)  : Option (AS × Int32) := l_L_trader_53  w w a x8 x9 x10 x11 x10
set_option maxHeartbeats 4000000 in
set_option maxRecDepth 100000 in
theorem lb_L_trader_49 {p : Program} {l : Launch} {e : Env} {s : State} {m : MethodId} {args : Array Value} {below : List Frame} {meth : Method} {c : Code} {D : va_G} {E : Nat → ClassId} {sz : Nat} {M : Nat → Nat → Nat → Int32} {a0 : AS} {ρ : YR} {w : Nat} {r0 : AS × Int32} (C : cx p s m args meth c D E (Aof (mx M a0, ρ) [] s.heap.size) cL_trader 13 "TradeLineLaw") (hr : meth.sig.returnType = none) (hz : s.heap.size = sz) (hρ : rsh ρ) {a : AS} {x8 : Int32} {x9 : Int32} {x10 : Int32} {x11 : Int32}    (h : b_L_trader_49  w a x8 x9 x10 x11  = some r0) : G p l e ({ frames := 1, cells := 0, slots := 0, locals := 22 } : Room) s m args below meth c D E (Aof (mx M a0, ρ) [] s.heap.size) 13 (MQ below (cQ D E sz (mx M a0, ρ) [] (pV (fun u => u = ((mx M r0.1, ρ), [])))) args s 0 0 (Aof (mx M a0, ρ) [] s.heap.size)) (mx M a, ρ) [] 0 0 49 [(0, .ref (ρ.2.2.2 (40 + 8) 0)), (1, .ref (ρ.2.2.2 (40 + 9) 0)), (2, .ref (ρ.2.2.2 (40 + 10) 0)), (3, .ref (ρ.2.2.2 (40 + 11) 0)), (4, .ref (ρ.2.2.2 (40 + 12) 0)), (5, .ref (ρ.2.2.2 (40 + 13) 0)), (8, .int x8), (9, .int x9), (10, .int x10), (11, .int x11)] [] := by
  unfold b_L_trader_49 at h
  refine g_iload C dL_trader_49 8 rfl ?_
  refine g_istore (lv' := [(12, .int x10), (0, .ref (ρ.2.2.2 (40 + 8) 0)), (1, .ref (ρ.2.2.2 (40 + 9) 0)), (2, .ref (ρ.2.2.2 (40 + 10) 0)), (3, .ref (ρ.2.2.2 (40 + 11) 0)), (4, .ref (ρ.2.2.2 (40 + 12) 0)), (5, .ref (ρ.2.2.2 (40 + 13) 0)), (8, .int x8), (9, .int x9), (10, .int x10), (11, .int x11)]) C dL_trader_51 (by decide) rfl ?_
  refine g_lv [1, 2, 3, 4, 5, 6, 7, 8, 9, 10, 0] rfl ?_
  exact ll_L_trader_53 C hr hz hρ  w _ _ _ _ _ _ h
noncomputable def f_L_trader  (w : Nat) (a : AS) (x6 : Int64)  : Option (AS × Int32) := (f_L_part w a x6 (5 : Int32)).bind (fun v1 => (f_L_part w a x6 (13 : Int32)).bind (fun v2 => (f_L_part w a x6 (21 : Int32)).bind (fun v3 => (f_L_part w a x6 (29 : Int32)).bind (fun v4 => (if v1 = (0 : Int32) then (bif ixB v2 10 then yl (up2 a 12 v2.toNatClampNeg ((a 12 v2.toNatClampNeg) ||| (2 : Int32))) (fun a28 => b_L_trader_49  w a28 v1 v2 v3 v4) else none) else (b_L_trader_49  w a v1 v2 v3 v4))))))
set_option maxHeartbeats 4000000 in
set_option maxRecDepth 100000 in
theorem lb_L_trader_0 {p : Program} {l : Launch} {e : Env} {s : State} {m : MethodId} {args : Array Value} {below : List Frame} {meth : Method} {c : Code} {D : va_G} {E : Nat → ClassId} {sz : Nat} {M : Nat → Nat → Nat → Int32} {a0 : AS} {ρ : YR} {w : Nat} {r0 : AS × Int32} (C : cx p s m args meth c D E (Aof (mx M a0, ρ) [] s.heap.size) cL_trader 13 "TradeLineLaw") (hr : meth.sig.returnType = none) (hz : s.heap.size = sz) (hρ : rsh ρ) {a : AS} {x6 : Int64}    (h : f_L_trader  w a x6  = some r0) : G p l e ({ frames := 1, cells := 0, slots := 0, locals := 22 } : Room) s m args below meth c D E (Aof (mx M a0, ρ) [] s.heap.size) 13 (MQ below (cQ D E sz (mx M a0, ρ) [] (pV (fun u => u = ((mx M r0.1, ρ), [])))) args s 0 0 (Aof (mx M a0, ρ) [] s.heap.size)) (mx M a, ρ) [] 0 0 0 [(0, .ref (ρ.2.2.2 (40 + 8) 0)), (1, .ref (ρ.2.2.2 (40 + 9) 0)), (2, .ref (ρ.2.2.2 (40 + 10) 0)), (3, .ref (ρ.2.2.2 (40 + 11) 0)), (4, .ref (ρ.2.2.2 (40 + 12) 0)), (5, .ref (ρ.2.2.2 (40 + 13) 0)), (6, .long x6)] [] := by
  unfold f_L_trader at h
  refine g_lload C dL_trader_0 6 rfl ?_
  refine g_iconst (v := (5 : Int32)) C dL_trader_2 (by decide) ?_
  obtain ⟨v1, hv1, h⟩ := bind_of h
  refine g_cSi (n := 2) (exc := []) (exr := []) C [_, _] _ rfl rfl [] [] rfl rfl rfl rfl (fun _ h => absurd h (by simp)) (fun _ h => absurd h (by simp)) (fun _ h => absurd h (by simp)) (fun sz => k_L_part l M ρ hρ w _ _ _ _ hv1 D E sz) rfl gw_1002 gw_0 gw_1000 gw_1001 ⟨by decide +kernel, by decide +kernel, by decide +kernel⟩ ⟨rfl, rfl⟩ ⟨Nat.le_of_ble_eq_true rfl, Nat.le_of_ble_eq_true rfl⟩ (Nat.le_of_ble_eq_true rfl) dL_trader_3 ⟨by decide, by decide⟩ (fun r u hp hx => ?_)
  obtain ⟨er, rfl⟩ := hp
  rw [er]
  try dsimp only [List.append_nil]
  refine g_istore (lv' := [(8, .int v1), (0, .ref (ρ.2.2.2 (40 + 8) 0)), (1, .ref (ρ.2.2.2 (40 + 9) 0)), (2, .ref (ρ.2.2.2 (40 + 10) 0)), (3, .ref (ρ.2.2.2 (40 + 11) 0)), (4, .ref (ρ.2.2.2 (40 + 12) 0)), (5, .ref (ρ.2.2.2 (40 + 13) 0)), (6, .long x6)]) C dL_trader_6 (by decide) rfl ?_
  refine g_lload C dL_trader_8 7 rfl ?_
  refine g_bipush (v := (13 : Int32)) C dL_trader_10 (by decide) ?_
  obtain ⟨v2, hv2, h⟩ := bind_of h
  refine g_cSi (n := 2) (exc := []) (exr := []) C [_, _] _ rfl rfl [] [] rfl rfl rfl rfl (fun _ h => absurd h (by simp)) (fun _ h => absurd h (by simp)) (fun _ h => absurd h (by simp)) (fun sz => k_L_part l M ρ hρ w _ _ _ _ hv2 D E sz) rfl gw_1002 gw_0 gw_1000 gw_1001 ⟨by decide +kernel, by decide +kernel, by decide +kernel⟩ ⟨rfl, rfl⟩ ⟨Nat.le_of_ble_eq_true rfl, Nat.le_of_ble_eq_true rfl⟩ (Nat.le_of_ble_eq_true rfl) dL_trader_12 ⟨by decide, by decide⟩ (fun r u hp hx => ?_)
  obtain ⟨er, rfl⟩ := hp
  rw [er]
  try dsimp only [List.append_nil]
  refine g_istore (lv' := [(9, .int v2), (8, .int v1), (0, .ref (ρ.2.2.2 (40 + 8) 0)), (1, .ref (ρ.2.2.2 (40 + 9) 0)), (2, .ref (ρ.2.2.2 (40 + 10) 0)), (3, .ref (ρ.2.2.2 (40 + 11) 0)), (4, .ref (ρ.2.2.2 (40 + 12) 0)), (5, .ref (ρ.2.2.2 (40 + 13) 0)), (6, .long x6)]) C dL_trader_15 (by decide) rfl ?_
  refine g_lload C dL_trader_17 8 rfl ?_
  refine g_bipush (v := (21 : Int32)) C dL_trader_19 (by decide) ?_
  obtain ⟨v3, hv3, h⟩ := bind_of h
  refine g_cSi (n := 2) (exc := []) (exr := []) C [_, _] _ rfl rfl [] [] rfl rfl rfl rfl (fun _ h => absurd h (by simp)) (fun _ h => absurd h (by simp)) (fun _ h => absurd h (by simp)) (fun sz => k_L_part l M ρ hρ w _ _ _ _ hv3 D E sz) rfl gw_1002 gw_0 gw_1000 gw_1001 ⟨by decide +kernel, by decide +kernel, by decide +kernel⟩ ⟨rfl, rfl⟩ ⟨Nat.le_of_ble_eq_true rfl, Nat.le_of_ble_eq_true rfl⟩ (Nat.le_of_ble_eq_true rfl) dL_trader_21 ⟨by decide, by decide⟩ (fun r u hp hx => ?_)
  obtain ⟨er, rfl⟩ := hp
  rw [er]
  try dsimp only [List.append_nil]
  refine g_istore (lv' := [(10, .int v3), (9, .int v2), (8, .int v1), (0, .ref (ρ.2.2.2 (40 + 8) 0)), (1, .ref (ρ.2.2.2 (40 + 9) 0)), (2, .ref (ρ.2.2.2 (40 + 10) 0)), (3, .ref (ρ.2.2.2 (40 + 11) 0)), (4, .ref (ρ.2.2.2 (40 + 12) 0)), (5, .ref (ρ.2.2.2 (40 + 13) 0)), (6, .long x6)]) C dL_trader_24 (by decide) rfl ?_
  refine g_lload C dL_trader_26 9 rfl ?_
  refine g_bipush (v := (29 : Int32)) C dL_trader_28 (by decide) ?_
  obtain ⟨v4, hv4, h⟩ := bind_of h
  refine g_cSi (n := 2) (exc := []) (exr := []) C [_, _] _ rfl rfl [] [] rfl rfl rfl rfl (fun _ h => absurd h (by simp)) (fun _ h => absurd h (by simp)) (fun _ h => absurd h (by simp)) (fun sz => k_L_part l M ρ hρ w _ _ _ _ hv4 D E sz) rfl gw_1002 gw_0 gw_1000 gw_1001 ⟨by decide +kernel, by decide +kernel, by decide +kernel⟩ ⟨rfl, rfl⟩ ⟨Nat.le_of_ble_eq_true rfl, Nat.le_of_ble_eq_true rfl⟩ (Nat.le_of_ble_eq_true rfl) dL_trader_30 ⟨by decide, by decide⟩ (fun r u hp hx => ?_)
  obtain ⟨er, rfl⟩ := hp
  rw [er]
  try dsimp only [List.append_nil]
  refine g_istore (lv' := [(11, .int v4), (10, .int v3), (9, .int v2), (8, .int v1), (0, .ref (ρ.2.2.2 (40 + 8) 0)), (1, .ref (ρ.2.2.2 (40 + 9) 0)), (2, .ref (ρ.2.2.2 (40 + 10) 0)), (3, .ref (ρ.2.2.2 (40 + 11) 0)), (4, .ref (ρ.2.2.2 (40 + 12) 0)), (5, .ref (ρ.2.2.2 (40 + 13) 0)), (6, .long x6)]) C dL_trader_33 (by decide) rfl ?_
  refine g_iload C dL_trader_35 3 rfl ?_
  refine g_if_ne (tgt := 49) C dL_trader_37 (by decide) (fun c37 => ?_) (fun c37 => ?_)
  · replace h := (if_neg c37).symm.trans h
    refine g_lv [4, 5, 6, 7, 8, 9, 3, 2, 1, 0] rfl ?_
    exact lb_L_trader_49 C hr hz hρ  h
  · replace h := (if_pos c37).symm.trans h
    refine g_aload C dL_trader_40 8 rfl ?_
    refine g_iload C dL_trader_42 2 rfl ?_
    refine g_dup2 C dL_trader_44 rfl rfl ?_
    obtain ⟨g27, h⟩ := of_guard h
    refine q_iald C hρ (j := 12) (N := 10) (by decide) rfl g27 dL_trader_45 ?_
    refine g_iconst (v := (2 : Int32)) C dL_trader_46 (by decide) ?_
    refine g_ior C dL_trader_47 ?_
    refine q_iast C hρ (j := 12) (N := 10) (by decide) rfl g27 dL_trader_48 (fun a28 ea28 => ?_)
    replace h := yl_of h ea28
    refine g_lv [4, 5, 6, 7, 8, 9, 3, 2, 1, 0] rfl ?_
    exact lb_L_trader_49 C hr hz hρ  h
theorem k_L_trader (l : Launch) (M : Nat → Nat → Nat → Int32) (ρ : YR) (hρ : rsh ρ) (w : Nat) (a : AS) (x6 : Int64) (r0 : AS × Int32) (h : f_L_trader w a x6 = some r0) : ∀ D E sz, Met l yL_trader gwL_trader ({ frames := 1, cells := 0, slots := 0, locals := 22 } : Room) (cP D E sz (mx M a, ρ) [] [.ref (ρ.2.2.2 (40 + 8) 0), .ref (ρ.2.2.2 (40 + 9) 0), .ref (ρ.2.2.2 (40 + 10) 0), .ref (ρ.2.2.2 (40 + 11) 0), .ref (ρ.2.2.2 (40 + 12) 0), .ref (ρ.2.2.2 (40 + 13) 0), .long x6]) (cQ D E sz (mx M a, ρ) [] (pV (fun u => u = ((mx M r0.1, ρ), [])))) (0) (0) (Aof (mx M a, ρ) [] sz) := by
  intro D E sz
  refine g_of (cc := cL_trader) (maxL := 13) (ret := none) (own := "TradeLineLaw") (by decide) rfl rfl (Nat.le_of_ble_eq_true rfl) ?_
  intro p e s m args below meth c C hr hin hz ha hwr
  refine g_lv [0, 1, 2, 3, 4, 5, 6] rfl ?_
  exact lb_L_trader_0 C hr hz hρ h
noncomputable def b_L_take_267 (k21 : AS → Int32 → Int32 → Nat → Int32 → Option (AS × Int32)) (w : Nat) (a : AS) (x14 : Int32) (x17 : Nat) (x18 : Int32) (s0 : Int32) : Option (AS × Int32) := k21 a x14 s0 x17 x18
set_option maxHeartbeats 4000000 in
set_option maxRecDepth 100000 in
theorem lb_L_take_267 {p : Program} {l : Launch} {e : Env} {s : State} {m : MethodId} {args : Array Value} {below : List Frame} {meth : Method} {c : Code} {D : va_G} {E : Nat → ClassId} {sz : Nat} {M : Nat → Nat → Nat → Int32} {a0 : AS} {ρ : YR} {w : Nat} {r0 : AS × Int32} (C : cx p s m args meth c D E (Aof (mx M a0, ρ) [] s.heap.size) cL_take 24 "TradeLineLaw") (hr : meth.sig.returnType = none) (hz : s.heap.size = sz) (hρ : rsh ρ) {a : AS} {x14 : Int32} {x17 : Nat} {x18 : Int32} {s0 : Int32} {k21 : AS → Int32 → Int32 → Nat → Int32 → Option (AS × Int32)} (hk21 : ∀ (a1 : AS) (z14 : Int32) (z16 : Int32) (z17 : Nat) (z18 : Int32), k21 a1 z14 z16 z17 z18 = some r0 → G p l e ({ frames := 5, cells := 0, slots := 0, locals := 152 } : Room) s m args below meth c D E (Aof (mx M a0, ρ) [] s.heap.size) 24 (MQ below (cQ D E sz (mx M a0, ρ) [] (pV (fun u => u = ((mx M r0.1, ρ), [])))) args s 0 0 (Aof (mx M a0, ρ) [] s.heap.size)) (mx M a1, ρ) [] 0 0 21 [(0, .ref (ρ.2.2.2 (40 + 1) 0)), (1, .ref (ρ.2.2.2 (40 + 2) 0)), (2, .ref (ρ.2.2.2 (40 + 3) 0)), (3, .ref (ρ.2.2.2 (40 + 4) 0)), (4, .ref (ρ.2.2.2 (40 + 5) 0)), (7, .ref (ρ.2.2.2 (40 + 8) 0)), (8, .ref (ρ.2.2.2 (40 + 9) 0)), (9, .ref (ρ.2.2.2 (40 + 10) 0)), (10, .ref (ρ.2.2.2 (40 + 11) 0)), (11, .ref (ρ.2.2.2 (40 + 12) 0)), (12, .ref (ρ.2.2.2 (40 + 13) 0)), (13, .ref (ρ.2.2.2 (40 + 14) 0)), (14, .int z14), (16, .int z16), (17, .ref (ρ.2.2.2 (40 + z17) 0)), (18, .int z18)] []) (h : b_L_take_267 k21 w a x14 x17 x18 s0 = some r0) : G p l e ({ frames := 5, cells := 0, slots := 0, locals := 152 } : Room) s m args below meth c D E (Aof (mx M a0, ρ) [] s.heap.size) 24 (MQ below (cQ D E sz (mx M a0, ρ) [] (pV (fun u => u = ((mx M r0.1, ρ), [])))) args s 0 0 (Aof (mx M a0, ρ) [] s.heap.size)) (mx M a, ρ) [] 0 0 267 [(0, .ref (ρ.2.2.2 (40 + 1) 0)), (1, .ref (ρ.2.2.2 (40 + 2) 0)), (2, .ref (ρ.2.2.2 (40 + 3) 0)), (3, .ref (ρ.2.2.2 (40 + 4) 0)), (4, .ref (ρ.2.2.2 (40 + 5) 0)), (7, .ref (ρ.2.2.2 (40 + 8) 0)), (8, .ref (ρ.2.2.2 (40 + 9) 0)), (9, .ref (ρ.2.2.2 (40 + 10) 0)), (10, .ref (ρ.2.2.2 (40 + 11) 0)), (11, .ref (ρ.2.2.2 (40 + 12) 0)), (12, .ref (ρ.2.2.2 (40 + 13) 0)), (13, .ref (ρ.2.2.2 (40 + 14) 0)), (14, .int x14), (17, .ref (ρ.2.2.2 (40 + x17) 0)), (18, .int x18)] [.int s0] := by
  unfold b_L_take_267 at h
  refine g_istore (lv' := [(16, .int s0), (0, .ref (ρ.2.2.2 (40 + 1) 0)), (1, .ref (ρ.2.2.2 (40 + 2) 0)), (2, .ref (ρ.2.2.2 (40 + 3) 0)), (3, .ref (ρ.2.2.2 (40 + 4) 0)), (4, .ref (ρ.2.2.2 (40 + 5) 0)), (7, .ref (ρ.2.2.2 (40 + 8) 0)), (8, .ref (ρ.2.2.2 (40 + 9) 0)), (9, .ref (ρ.2.2.2 (40 + 10) 0)), (10, .ref (ρ.2.2.2 (40 + 11) 0)), (11, .ref (ρ.2.2.2 (40 + 12) 0)), (12, .ref (ρ.2.2.2 (40 + 13) 0)), (13, .ref (ρ.2.2.2 (40 + 14) 0)), (14, .int x14), (17, .ref (ρ.2.2.2 (40 + x17) 0)), (18, .int x18)]) C dL_take_267 (by decide) rfl ?_
  refine g_goto (tgt := 21) C dL_take_269 (by decide) ?_
  refine g_lv [1, 2, 3, 4, 5, 6, 7, 8, 9, 10, 11, 12, 13, 0, 14, 15] rfl ?_
  exact hk21 _ _ _ _ _ h
noncomputable def b_L_take_244 (k21 : AS → Int32 → Int32 → Nat → Int32 → Option (AS × Int32)) (w : Nat) (a : AS) (x14 : Int32) (x17 : Nat) (s0 : Int32) : Option (AS × Int32) := (if s0 = (0 : Int32) then (b_L_take_267 k21 w a x14 x17 s0 (0 : Int32)) else (bif ixB ((6 : Int32) + x14) 22 then bif inB x17 64 then bif ixB (a 1 ((6 : Int32) + x14).toNatClampNeg) 64 then b_L_take_267 k21 w a x14 x17 s0 ((a x17 (a 1 ((6 : Int32) + x14).toNatClampNeg).toNatClampNeg) - (1 : Int32)) else none else none else none))
set_option maxHeartbeats 4000000 in
set_option maxRecDepth 100000 in
theorem lb_L_take_244 {p : Program} {l : Launch} {e : Env} {s : State} {m : MethodId} {args : Array Value} {below : List Frame} {meth : Method} {c : Code} {D : va_G} {E : Nat → ClassId} {sz : Nat} {M : Nat → Nat → Nat → Int32} {a0 : AS} {ρ : YR} {w : Nat} {r0 : AS × Int32} (C : cx p s m args meth c D E (Aof (mx M a0, ρ) [] s.heap.size) cL_take 24 "TradeLineLaw") (hr : meth.sig.returnType = none) (hz : s.heap.size = sz) (hρ : rsh ρ) {a : AS} {x14 : Int32} {x17 : Nat} {s0 : Int32} {k21 : AS → Int32 → Int32 → Nat → Int32 → Option (AS × Int32)} (hk21 : ∀ (a1 : AS) (z14 : Int32) (z16 : Int32) (z17 : Nat) (z18 : Int32), k21 a1 z14 z16 z17 z18 = some r0 → G p l e ({ frames := 5, cells := 0, slots := 0, locals := 152 } : Room) s m args below meth c D E (Aof (mx M a0, ρ) [] s.heap.size) 24 (MQ below (cQ D E sz (mx M a0, ρ) [] (pV (fun u => u = ((mx M r0.1, ρ), [])))) args s 0 0 (Aof (mx M a0, ρ) [] s.heap.size)) (mx M a1, ρ) [] 0 0 21 [(0, .ref (ρ.2.2.2 (40 + 1) 0)), (1, .ref (ρ.2.2.2 (40 + 2) 0)), (2, .ref (ρ.2.2.2 (40 + 3) 0)), (3, .ref (ρ.2.2.2 (40 + 4) 0)), (4, .ref (ρ.2.2.2 (40 + 5) 0)), (7, .ref (ρ.2.2.2 (40 + 8) 0)), (8, .ref (ρ.2.2.2 (40 + 9) 0)), (9, .ref (ρ.2.2.2 (40 + 10) 0)), (10, .ref (ρ.2.2.2 (40 + 11) 0)), (11, .ref (ρ.2.2.2 (40 + 12) 0)), (12, .ref (ρ.2.2.2 (40 + 13) 0)), (13, .ref (ρ.2.2.2 (40 + 14) 0)), (14, .int z14), (16, .int z16), (17, .ref (ρ.2.2.2 (40 + z17) 0)), (18, .int z18)] []) (h : b_L_take_244 k21 w a x14 x17 s0 = some r0) : G p l e ({ frames := 5, cells := 0, slots := 0, locals := 152 } : Room) s m args below meth c D E (Aof (mx M a0, ρ) [] s.heap.size) 24 (MQ below (cQ D E sz (mx M a0, ρ) [] (pV (fun u => u = ((mx M r0.1, ρ), [])))) args s 0 0 (Aof (mx M a0, ρ) [] s.heap.size)) (mx M a, ρ) [] 0 0 244 [(0, .ref (ρ.2.2.2 (40 + 1) 0)), (1, .ref (ρ.2.2.2 (40 + 2) 0)), (2, .ref (ρ.2.2.2 (40 + 3) 0)), (3, .ref (ρ.2.2.2 (40 + 4) 0)), (4, .ref (ρ.2.2.2 (40 + 5) 0)), (7, .ref (ρ.2.2.2 (40 + 8) 0)), (8, .ref (ρ.2.2.2 (40 + 9) 0)), (9, .ref (ρ.2.2.2 (40 + 10) 0)), (10, .ref (ρ.2.2.2 (40 + 11) 0)), (11, .ref (ρ.2.2.2 (40 + 12) 0)), (12, .ref (ρ.2.2.2 (40 + 13) 0)), (13, .ref (ρ.2.2.2 (40 + 14) 0)), (14, .int x14), (17, .ref (ρ.2.2.2 (40 + x17) 0))] [.int s0] := by
  unfold b_L_take_244 at h
  refine g_istore (lv' := [(18, .int s0), (0, .ref (ρ.2.2.2 (40 + 1) 0)), (1, .ref (ρ.2.2.2 (40 + 2) 0)), (2, .ref (ρ.2.2.2 (40 + 3) 0)), (3, .ref (ρ.2.2.2 (40 + 4) 0)), (4, .ref (ρ.2.2.2 (40 + 5) 0)), (7, .ref (ρ.2.2.2 (40 + 8) 0)), (8, .ref (ρ.2.2.2 (40 + 9) 0)), (9, .ref (ρ.2.2.2 (40 + 10) 0)), (10, .ref (ρ.2.2.2 (40 + 11) 0)), (11, .ref (ρ.2.2.2 (40 + 12) 0)), (12, .ref (ρ.2.2.2 (40 + 13) 0)), (13, .ref (ρ.2.2.2 (40 + 14) 0)), (14, .int x14), (17, .ref (ρ.2.2.2 (40 + x17) 0))]) C dL_take_244 (by decide) rfl ?_
  refine g_iload C dL_take_246 0 rfl ?_
  refine g_if_eq (tgt := 266) C dL_take_248 (by decide) (fun c248 => ?_) (fun c248 => ?_)
  · replace h := (if_pos c248).symm.trans h
    refine g_iconst (v := (0 : Int32)) C dL_take_266 (by decide) ?_
    refine g_lv [1, 2, 3, 4, 5, 6, 7, 8, 9, 10, 11, 12, 13, 14, 0] rfl ?_
    exact lb_L_take_267 C hr hz hρ hk21 h
  · replace h := (if_neg c248).symm.trans h
    refine g_aload C dL_take_251 14 rfl ?_
    refine g_aload_n C dL_take_253 rfl 1 rfl ?_
    refine g_bipush (v := (6 : Int32)) C dL_take_254 (by decide) ?_
    refine g_iload C dL_take_256 13 rfl ?_
    refine g_iadd C dL_take_258 ?_
    obtain ⟨g12, h⟩ := of_guard h
    refine q_iald C hρ (j := 1) (N := 22) (by decide) rfl g12 dL_take_259 ?_
    obtain ⟨g13, h⟩ := of_guard h
    obtain ⟨g14, h⟩ := of_guard h
    refine q_iald C hρ (j := x17) (N := 64) g13 rfl g14 dL_take_260 ?_
    refine g_iconst (v := (1 : Int32)) C dL_take_261 (by decide) ?_
    refine g_isub C dL_take_262 ?_
    refine g_goto (tgt := 267) C dL_take_263 (by decide) ?_
    refine g_lv [1, 2, 3, 4, 5, 6, 7, 8, 9, 10, 11, 12, 13, 14, 0] rfl ?_
    exact lb_L_take_267 C hr hz hρ hk21 h
noncomputable def b_L_take_243 (k21 : AS → Int32 → Int32 → Nat → Int32 → Option (AS × Int32)) (w : Nat) (a : AS) (x14 : Int32) (x17 : Nat)  : Option (AS × Int32) := b_L_take_244 k21 w a x14 x17 (0 : Int32)
set_option maxHeartbeats 4000000 in
set_option maxRecDepth 100000 in
theorem lb_L_take_243 {p : Program} {l : Launch} {e : Env} {s : State} {m : MethodId} {args : Array Value} {below : List Frame} {meth : Method} {c : Code} {D : va_G} {E : Nat → ClassId} {sz : Nat} {M : Nat → Nat → Nat → Int32} {a0 : AS} {ρ : YR} {w : Nat} {r0 : AS × Int32} (C : cx p s m args meth c D E (Aof (mx M a0, ρ) [] s.heap.size) cL_take 24 "TradeLineLaw") (hr : meth.sig.returnType = none) (hz : s.heap.size = sz) (hρ : rsh ρ) {a : AS} {x14 : Int32} {x17 : Nat}  {k21 : AS → Int32 → Int32 → Nat → Int32 → Option (AS × Int32)} (hk21 : ∀ (a1 : AS) (z14 : Int32) (z16 : Int32) (z17 : Nat) (z18 : Int32), k21 a1 z14 z16 z17 z18 = some r0 → G p l e ({ frames := 5, cells := 0, slots := 0, locals := 152 } : Room) s m args below meth c D E (Aof (mx M a0, ρ) [] s.heap.size) 24 (MQ below (cQ D E sz (mx M a0, ρ) [] (pV (fun u => u = ((mx M r0.1, ρ), [])))) args s 0 0 (Aof (mx M a0, ρ) [] s.heap.size)) (mx M a1, ρ) [] 0 0 21 [(0, .ref (ρ.2.2.2 (40 + 1) 0)), (1, .ref (ρ.2.2.2 (40 + 2) 0)), (2, .ref (ρ.2.2.2 (40 + 3) 0)), (3, .ref (ρ.2.2.2 (40 + 4) 0)), (4, .ref (ρ.2.2.2 (40 + 5) 0)), (7, .ref (ρ.2.2.2 (40 + 8) 0)), (8, .ref (ρ.2.2.2 (40 + 9) 0)), (9, .ref (ρ.2.2.2 (40 + 10) 0)), (10, .ref (ρ.2.2.2 (40 + 11) 0)), (11, .ref (ρ.2.2.2 (40 + 12) 0)), (12, .ref (ρ.2.2.2 (40 + 13) 0)), (13, .ref (ρ.2.2.2 (40 + 14) 0)), (14, .int z14), (16, .int z16), (17, .ref (ρ.2.2.2 (40 + z17) 0)), (18, .int z18)] []) (h : b_L_take_243 k21 w a x14 x17  = some r0) : G p l e ({ frames := 5, cells := 0, slots := 0, locals := 152 } : Room) s m args below meth c D E (Aof (mx M a0, ρ) [] s.heap.size) 24 (MQ below (cQ D E sz (mx M a0, ρ) [] (pV (fun u => u = ((mx M r0.1, ρ), [])))) args s 0 0 (Aof (mx M a0, ρ) [] s.heap.size)) (mx M a, ρ) [] 0 0 243 [(0, .ref (ρ.2.2.2 (40 + 1) 0)), (1, .ref (ρ.2.2.2 (40 + 2) 0)), (2, .ref (ρ.2.2.2 (40 + 3) 0)), (3, .ref (ρ.2.2.2 (40 + 4) 0)), (4, .ref (ρ.2.2.2 (40 + 5) 0)), (7, .ref (ρ.2.2.2 (40 + 8) 0)), (8, .ref (ρ.2.2.2 (40 + 9) 0)), (9, .ref (ρ.2.2.2 (40 + 10) 0)), (10, .ref (ρ.2.2.2 (40 + 11) 0)), (11, .ref (ρ.2.2.2 (40 + 12) 0)), (12, .ref (ρ.2.2.2 (40 + 13) 0)), (13, .ref (ρ.2.2.2 (40 + 14) 0)), (14, .int x14), (17, .ref (ρ.2.2.2 (40 + x17) 0))] [] := by
  unfold b_L_take_243 at h
  refine g_iconst (v := (0 : Int32)) C dL_take_243 (by decide) ?_
  refine g_lv [0, 1, 2, 3, 4, 5, 6, 7, 8, 9, 10, 11, 12, 13] rfl ?_
  exact lb_L_take_244 C hr hz hρ hk21 h
noncomputable def b_L_take_214 (k21 : AS → Int32 → Int32 → Nat → Int32 → Option (AS × Int32)) (w : Nat) (a : AS) (x14 : Int32) (x17 : Nat)  : Option (AS × Int32) := bif ixB ((6 : Int32) + x14) 22 then (if (64 : Int32) ≤ (a 1 ((6 : Int32) + x14).toNatClampNeg) then (b_L_take_243 k21 w a x14 x17) else (bif inB x17 64 then bif ixB (a 1 ((6 : Int32) + x14).toNatClampNeg) 64 then (if (a x17 (a 1 ((6 : Int32) + x14).toNatClampNeg).toNatClampNeg) ≤ (0 : Int32) then (b_L_take_243 k21 w a x14 x17) else (b_L_take_244 k21 w a x14 x17 (1 : Int32))) else none else none)) else none
set_option maxHeartbeats 4000000 in
set_option maxRecDepth 100000 in
theorem lb_L_take_214 {p : Program} {l : Launch} {e : Env} {s : State} {m : MethodId} {args : Array Value} {below : List Frame} {meth : Method} {c : Code} {D : va_G} {E : Nat → ClassId} {sz : Nat} {M : Nat → Nat → Nat → Int32} {a0 : AS} {ρ : YR} {w : Nat} {r0 : AS × Int32} (C : cx p s m args meth c D E (Aof (mx M a0, ρ) [] s.heap.size) cL_take 24 "TradeLineLaw") (hr : meth.sig.returnType = none) (hz : s.heap.size = sz) (hρ : rsh ρ) {a : AS} {x14 : Int32} {x17 : Nat}  {k21 : AS → Int32 → Int32 → Nat → Int32 → Option (AS × Int32)} (hk21 : ∀ (a1 : AS) (z14 : Int32) (z16 : Int32) (z17 : Nat) (z18 : Int32), k21 a1 z14 z16 z17 z18 = some r0 → G p l e ({ frames := 5, cells := 0, slots := 0, locals := 152 } : Room) s m args below meth c D E (Aof (mx M a0, ρ) [] s.heap.size) 24 (MQ below (cQ D E sz (mx M a0, ρ) [] (pV (fun u => u = ((mx M r0.1, ρ), [])))) args s 0 0 (Aof (mx M a0, ρ) [] s.heap.size)) (mx M a1, ρ) [] 0 0 21 [(0, .ref (ρ.2.2.2 (40 + 1) 0)), (1, .ref (ρ.2.2.2 (40 + 2) 0)), (2, .ref (ρ.2.2.2 (40 + 3) 0)), (3, .ref (ρ.2.2.2 (40 + 4) 0)), (4, .ref (ρ.2.2.2 (40 + 5) 0)), (7, .ref (ρ.2.2.2 (40 + 8) 0)), (8, .ref (ρ.2.2.2 (40 + 9) 0)), (9, .ref (ρ.2.2.2 (40 + 10) 0)), (10, .ref (ρ.2.2.2 (40 + 11) 0)), (11, .ref (ρ.2.2.2 (40 + 12) 0)), (12, .ref (ρ.2.2.2 (40 + 13) 0)), (13, .ref (ρ.2.2.2 (40 + 14) 0)), (14, .int z14), (16, .int z16), (17, .ref (ρ.2.2.2 (40 + z17) 0)), (18, .int z18)] []) (h : b_L_take_214 k21 w a x14 x17  = some r0) : G p l e ({ frames := 5, cells := 0, slots := 0, locals := 152 } : Room) s m args below meth c D E (Aof (mx M a0, ρ) [] s.heap.size) 24 (MQ below (cQ D E sz (mx M a0, ρ) [] (pV (fun u => u = ((mx M r0.1, ρ), [])))) args s 0 0 (Aof (mx M a0, ρ) [] s.heap.size)) (mx M a, ρ) [] 0 0 214 [(0, .ref (ρ.2.2.2 (40 + 1) 0)), (1, .ref (ρ.2.2.2 (40 + 2) 0)), (2, .ref (ρ.2.2.2 (40 + 3) 0)), (3, .ref (ρ.2.2.2 (40 + 4) 0)), (4, .ref (ρ.2.2.2 (40 + 5) 0)), (7, .ref (ρ.2.2.2 (40 + 8) 0)), (8, .ref (ρ.2.2.2 (40 + 9) 0)), (9, .ref (ρ.2.2.2 (40 + 10) 0)), (10, .ref (ρ.2.2.2 (40 + 11) 0)), (11, .ref (ρ.2.2.2 (40 + 12) 0)), (12, .ref (ρ.2.2.2 (40 + 13) 0)), (13, .ref (ρ.2.2.2 (40 + 14) 0)), (14, .int x14), (17, .ref (ρ.2.2.2 (40 + x17) 0))] [] := by
  unfold b_L_take_214 at h
  refine g_aload_n C dL_take_214 rfl 0 rfl ?_
  refine g_bipush (v := (6 : Int32)) C dL_take_215 (by decide) ?_
  refine g_iload C dL_take_217 12 rfl ?_
  refine g_iadd C dL_take_219 ?_
  obtain ⟨g11, h⟩ := of_guard h
  refine q_iald C hρ (j := 1) (N := 22) (by decide) rfl g11 dL_take_220 ?_
  refine g_bipush (v := (64 : Int32)) C dL_take_221 (by decide) ?_
  refine g_icmp_ge (tgt := 243) C dL_take_223 (by decide) (fun c223 => ?_) (fun c223 => ?_)
  · replace h := (if_pos c223).symm.trans h
    refine g_lv [0, 1, 2, 3, 4, 5, 6, 7, 8, 9, 10, 11, 12, 13] rfl ?_
    exact lb_L_take_243 C hr hz hρ hk21 h
  · replace h := (if_neg c223).symm.trans h
    refine g_aload C dL_take_226 13 rfl ?_
    refine g_aload_n C dL_take_228 rfl 0 rfl ?_
    refine g_bipush (v := (6 : Int32)) C dL_take_229 (by decide) ?_
    refine g_iload C dL_take_231 12 rfl ?_
    refine g_iadd C dL_take_233 ?_
    refine q_iald C hρ (j := 1) (N := 22) (by decide) rfl g11 dL_take_234 ?_
    obtain ⟨g15, h⟩ := of_guard h
    obtain ⟨g16, h⟩ := of_guard h
    refine q_iald C hρ (j := x17) (N := 64) g15 rfl g16 dL_take_235 ?_
    refine g_if_le (tgt := 243) C dL_take_236 (by decide) (fun c236 => ?_) (fun c236 => ?_)
    · replace h := (if_pos c236).symm.trans h
      refine g_lv [0, 1, 2, 3, 4, 5, 6, 7, 8, 9, 10, 11, 12, 13] rfl ?_
      exact lb_L_take_243 C hr hz hρ hk21 h
    · replace h := (if_neg c236).symm.trans h
      refine g_iconst (v := (1 : Int32)) C dL_take_239 (by decide) ?_
      refine g_goto (tgt := 244) C dL_take_240 (by decide) ?_
      refine g_lv [0, 1, 2, 3, 4, 5, 6, 7, 8, 9, 10, 11, 12, 13] rfl ?_
      exact lb_L_take_244 C hr hz hρ hk21 h
noncomputable def b_L_take_183 (k21 : AS → Int32 → Int32 → Nat → Int32 → Option (AS × Int32)) (k183 : AS → Int32 → Nat → Int32 → Option (AS × Int32)) (w : Nat) (a : AS) (x14 : Int32) (x17 : Nat) (x23 : Int32)  : Option (AS × Int32) := bif ixB ((6 : Int32) + x14) 22 then (if (a 1 ((6 : Int32) + x14).toNatClampNeg) ≤ x23 then (b_L_take_214 k21 w a x14 x17) else ((if (64 : Int32) ≤ x23 then (b_L_take_214 k21 w a x14 x17) else (bif inB x17 64 then bif ixB x23 64 then yl (up2 a x17 x23.toNatClampNeg (0 : Int32)) (fun a19 => yl (x23 + (1 : Int32)) (fun t20 => k183 a19 x14 x17 t20)) else none else none)))) else none
set_option maxHeartbeats 4000000 in
set_option maxRecDepth 100000 in
theorem lb_L_take_183 {p : Program} {l : Launch} {e : Env} {s : State} {m : MethodId} {args : Array Value} {below : List Frame} {meth : Method} {c : Code} {D : va_G} {E : Nat → ClassId} {sz : Nat} {M : Nat → Nat → Nat → Int32} {a0 : AS} {ρ : YR} {w : Nat} {r0 : AS × Int32} (C : cx p s m args meth c D E (Aof (mx M a0, ρ) [] s.heap.size) cL_take 24 "TradeLineLaw") (hr : meth.sig.returnType = none) (hz : s.heap.size = sz) (hρ : rsh ρ) {a : AS} {x14 : Int32} {x17 : Nat} {x23 : Int32}  {k21 : AS → Int32 → Int32 → Nat → Int32 → Option (AS × Int32)} {k183 : AS → Int32 → Nat → Int32 → Option (AS × Int32)} (hk21 : ∀ (a1 : AS) (z14 : Int32) (z16 : Int32) (z17 : Nat) (z18 : Int32), k21 a1 z14 z16 z17 z18 = some r0 → G p l e ({ frames := 5, cells := 0, slots := 0, locals := 152 } : Room) s m args below meth c D E (Aof (mx M a0, ρ) [] s.heap.size) 24 (MQ below (cQ D E sz (mx M a0, ρ) [] (pV (fun u => u = ((mx M r0.1, ρ), [])))) args s 0 0 (Aof (mx M a0, ρ) [] s.heap.size)) (mx M a1, ρ) [] 0 0 21 [(0, .ref (ρ.2.2.2 (40 + 1) 0)), (1, .ref (ρ.2.2.2 (40 + 2) 0)), (2, .ref (ρ.2.2.2 (40 + 3) 0)), (3, .ref (ρ.2.2.2 (40 + 4) 0)), (4, .ref (ρ.2.2.2 (40 + 5) 0)), (7, .ref (ρ.2.2.2 (40 + 8) 0)), (8, .ref (ρ.2.2.2 (40 + 9) 0)), (9, .ref (ρ.2.2.2 (40 + 10) 0)), (10, .ref (ρ.2.2.2 (40 + 11) 0)), (11, .ref (ρ.2.2.2 (40 + 12) 0)), (12, .ref (ρ.2.2.2 (40 + 13) 0)), (13, .ref (ρ.2.2.2 (40 + 14) 0)), (14, .int z14), (16, .int z16), (17, .ref (ρ.2.2.2 (40 + z17) 0)), (18, .int z18)] []) (hk183 : ∀ (a1 : AS) (z14 : Int32) (z17 : Nat) (z23 : Int32), k183 a1 z14 z17 z23 = some r0 → G p l e ({ frames := 5, cells := 0, slots := 0, locals := 152 } : Room) s m args below meth c D E (Aof (mx M a0, ρ) [] s.heap.size) 24 (MQ below (cQ D E sz (mx M a0, ρ) [] (pV (fun u => u = ((mx M r0.1, ρ), [])))) args s 0 0 (Aof (mx M a0, ρ) [] s.heap.size)) (mx M a1, ρ) [] 0 0 183 [(0, .ref (ρ.2.2.2 (40 + 1) 0)), (1, .ref (ρ.2.2.2 (40 + 2) 0)), (2, .ref (ρ.2.2.2 (40 + 3) 0)), (3, .ref (ρ.2.2.2 (40 + 4) 0)), (4, .ref (ρ.2.2.2 (40 + 5) 0)), (7, .ref (ρ.2.2.2 (40 + 8) 0)), (8, .ref (ρ.2.2.2 (40 + 9) 0)), (9, .ref (ρ.2.2.2 (40 + 10) 0)), (10, .ref (ρ.2.2.2 (40 + 11) 0)), (11, .ref (ρ.2.2.2 (40 + 12) 0)), (12, .ref (ρ.2.2.2 (40 + 13) 0)), (13, .ref (ρ.2.2.2 (40 + 14) 0)), (14, .int z14), (17, .ref (ρ.2.2.2 (40 + z17) 0)), (23, .int z23)] []) (h : b_L_take_183 k21 k183 w a x14 x17 x23  = some r0) : G p l e ({ frames := 5, cells := 0, slots := 0, locals := 152 } : Room) s m args below meth c D E (Aof (mx M a0, ρ) [] s.heap.size) 24 (MQ below (cQ D E sz (mx M a0, ρ) [] (pV (fun u => u = ((mx M r0.1, ρ), [])))) args s 0 0 (Aof (mx M a0, ρ) [] s.heap.size)) (mx M a, ρ) [] 0 0 183 [(0, .ref (ρ.2.2.2 (40 + 1) 0)), (1, .ref (ρ.2.2.2 (40 + 2) 0)), (2, .ref (ρ.2.2.2 (40 + 3) 0)), (3, .ref (ρ.2.2.2 (40 + 4) 0)), (4, .ref (ρ.2.2.2 (40 + 5) 0)), (7, .ref (ρ.2.2.2 (40 + 8) 0)), (8, .ref (ρ.2.2.2 (40 + 9) 0)), (9, .ref (ρ.2.2.2 (40 + 10) 0)), (10, .ref (ρ.2.2.2 (40 + 11) 0)), (11, .ref (ρ.2.2.2 (40 + 12) 0)), (12, .ref (ρ.2.2.2 (40 + 13) 0)), (13, .ref (ρ.2.2.2 (40 + 14) 0)), (14, .int x14), (17, .ref (ρ.2.2.2 (40 + x17) 0)), (23, .int x23)] [] := by
  unfold b_L_take_183 at h
  refine g_iload C dL_take_183 14 rfl ?_
  refine g_aload_n C dL_take_185 rfl 0 rfl ?_
  refine g_bipush (v := (6 : Int32)) C dL_take_186 (by decide) ?_
  refine g_iload C dL_take_188 12 rfl ?_
  refine g_iadd C dL_take_190 ?_
  obtain ⟨g10, h⟩ := of_guard h
  refine q_iald C hρ (j := 1) (N := 22) (by decide) rfl g10 dL_take_191 ?_
  refine g_icmp_ge (tgt := 214) C dL_take_192 (by decide) (fun c192 => ?_) (fun c192 => ?_)
  · replace h := (if_pos c192).symm.trans h
    refine g_lv [0, 1, 2, 3, 4, 5, 6, 7, 8, 9, 10, 11, 12, 13] rfl ?_
    exact lb_L_take_214 C hr hz hρ hk21 h
  · replace h := (if_neg c192).symm.trans h
    refine g_iload C dL_take_195 14 rfl ?_
    refine g_bipush (v := (64 : Int32)) C dL_take_197 (by decide) ?_
    refine g_icmp_ge (tgt := 214) C dL_take_199 (by decide) (fun c199 => ?_) (fun c199 => ?_)
    · replace h := (if_pos c199).symm.trans h
      refine g_lv [0, 1, 2, 3, 4, 5, 6, 7, 8, 9, 10, 11, 12, 13] rfl ?_
      exact lb_L_take_214 C hr hz hρ hk21 h
    · replace h := (if_neg c199).symm.trans h
      refine g_aload C dL_take_202 13 rfl ?_
      refine g_iload C dL_take_204 14 rfl ?_
      refine g_iconst (v := (0 : Int32)) C dL_take_206 (by decide) ?_
      obtain ⟨g17, h⟩ := of_guard h
      obtain ⟨g18, h⟩ := of_guard h
      refine q_iast C hρ (j := x17) (N := 64) g17 rfl g18 dL_take_207 (fun a19 ea19 => ?_)
      replace h := yl_of h ea19
      obtain ⟨t20, et20⟩ : ∃ y : Int32, x23 + (1 : Int32) = y := ⟨_, rfl⟩
      replace h := yl_of h et20
      refine g_iinc (v := t20) (lv' := [(23, .int t20), (0, .ref (ρ.2.2.2 (40 + 1) 0)), (1, .ref (ρ.2.2.2 (40 + 2) 0)), (2, .ref (ρ.2.2.2 (40 + 3) 0)), (3, .ref (ρ.2.2.2 (40 + 4) 0)), (4, .ref (ρ.2.2.2 (40 + 5) 0)), (7, .ref (ρ.2.2.2 (40 + 8) 0)), (8, .ref (ρ.2.2.2 (40 + 9) 0)), (9, .ref (ρ.2.2.2 (40 + 10) 0)), (10, .ref (ρ.2.2.2 (40 + 11) 0)), (11, .ref (ρ.2.2.2 (40 + 12) 0)), (12, .ref (ρ.2.2.2 (40 + 13) 0)), (13, .ref (ρ.2.2.2 (40 + 14) 0)), (14, .int x14), (17, .ref (ρ.2.2.2 (40 + x17) 0))]) C dL_take_208 14 rfl (by rw [← et20]; rfl) (by decide) rfl ?_
      refine g_goto (tgt := 183) C dL_take_211 (by decide) ?_
      refine g_lv [1, 2, 3, 4, 5, 6, 7, 8, 9, 10, 11, 12, 13, 14, 0] rfl ?_
      exact hk183 _ _ _ _ h
noncomputable def l_L_take_183 (k21 : AS → Int32 → Int32 → Nat → Int32 → Option (AS × Int32)) (w : Nat) : Nat → AS → Int32 → Nat → Int32 → Option (AS × Int32)
  | 0 => fun _ _ _ _ => none
  | n + 1 => fun a x14 x17 x23 => b_L_take_183 k21 (l_L_take_183 k21 w n) w a x14 x17 x23
theorem ll_L_take_183 {p : Program} {l : Launch} {e : Env} {s : State} {m : MethodId} {args : Array Value} {below : List Frame} {meth : Method} {c : Code} {D : va_G} {E : Nat → ClassId} {sz : Nat} {M : Nat → Nat → Nat → Int32} {a0 : AS} {ρ : YR} {w : Nat} {r0 : AS × Int32} (C : cx p s m args meth c D E (Aof (mx M a0, ρ) [] s.heap.size) cL_take 24 "TradeLineLaw") (hr : meth.sig.returnType = none) (hz : s.heap.size = sz) (hρ : rsh ρ) {k21 : AS → Int32 → Int32 → Nat → Int32 → Option (AS × Int32)} (hk21 : ∀ (a1 : AS) (z14 : Int32) (z16 : Int32) (z17 : Nat) (z18 : Int32), k21 a1 z14 z16 z17 z18 = some r0 → G p l e ({ frames := 5, cells := 0, slots := 0, locals := 152 } : Room) s m args below meth c D E (Aof (mx M a0, ρ) [] s.heap.size) 24 (MQ below (cQ D E sz (mx M a0, ρ) [] (pV (fun u => u = ((mx M r0.1, ρ), [])))) args s 0 0 (Aof (mx M a0, ρ) [] s.heap.size)) (mx M a1, ρ) [] 0 0 21 [(0, .ref (ρ.2.2.2 (40 + 1) 0)), (1, .ref (ρ.2.2.2 (40 + 2) 0)), (2, .ref (ρ.2.2.2 (40 + 3) 0)), (3, .ref (ρ.2.2.2 (40 + 4) 0)), (4, .ref (ρ.2.2.2 (40 + 5) 0)), (7, .ref (ρ.2.2.2 (40 + 8) 0)), (8, .ref (ρ.2.2.2 (40 + 9) 0)), (9, .ref (ρ.2.2.2 (40 + 10) 0)), (10, .ref (ρ.2.2.2 (40 + 11) 0)), (11, .ref (ρ.2.2.2 (40 + 12) 0)), (12, .ref (ρ.2.2.2 (40 + 13) 0)), (13, .ref (ρ.2.2.2 (40 + 14) 0)), (14, .int z14), (16, .int z16), (17, .ref (ρ.2.2.2 (40 + z17) 0)), (18, .int z18)] []) : ∀ (n : Nat) (a : AS) (x14 : Int32) (x17 : Nat) (x23 : Int32), l_L_take_183 k21 w n a x14 x17 x23 = some r0 → G p l e ({ frames := 5, cells := 0, slots := 0, locals := 152 } : Room) s m args below meth c D E (Aof (mx M a0, ρ) [] s.heap.size) 24 (MQ below (cQ D E sz (mx M a0, ρ) [] (pV (fun u => u = ((mx M r0.1, ρ), [])))) args s 0 0 (Aof (mx M a0, ρ) [] s.heap.size)) (mx M a, ρ) [] 0 0 183 [(0, .ref (ρ.2.2.2 (40 + 1) 0)), (1, .ref (ρ.2.2.2 (40 + 2) 0)), (2, .ref (ρ.2.2.2 (40 + 3) 0)), (3, .ref (ρ.2.2.2 (40 + 4) 0)), (4, .ref (ρ.2.2.2 (40 + 5) 0)), (7, .ref (ρ.2.2.2 (40 + 8) 0)), (8, .ref (ρ.2.2.2 (40 + 9) 0)), (9, .ref (ρ.2.2.2 (40 + 10) 0)), (10, .ref (ρ.2.2.2 (40 + 11) 0)), (11, .ref (ρ.2.2.2 (40 + 12) 0)), (12, .ref (ρ.2.2.2 (40 + 13) 0)), (13, .ref (ρ.2.2.2 (40 + 14) 0)), (14, .int x14), (17, .ref (ρ.2.2.2 (40 + x17) 0)), (23, .int x23)] [] := by
  intro n
  induction n with
  | zero => exact fun a x14 x17 x23 h => absurd (show (none : Option (AS × Int32)) = some r0 from h) (by simp)
  | succ n ih => exact fun a x14 x17 x23 h => lb_L_take_183 (w := w) C hr hz hρ hk21 ih h
noncomputable def b_L_take_180 (k21 : AS → Int32 → Int32 → Nat → Int32 → Option (AS × Int32)) (w : Nat) (a : AS) (x14 : Int32) (x17 : Nat)  : Option (AS × Int32) := l_L_take_183 k21 w w a x14 x17 (0 : Int32)
set_option maxHeartbeats 4000000 in
set_option maxRecDepth 100000 in
theorem lb_L_take_180 {p : Program} {l : Launch} {e : Env} {s : State} {m : MethodId} {args : Array Value} {below : List Frame} {meth : Method} {c : Code} {D : va_G} {E : Nat → ClassId} {sz : Nat} {M : Nat → Nat → Nat → Int32} {a0 : AS} {ρ : YR} {w : Nat} {r0 : AS × Int32} (C : cx p s m args meth c D E (Aof (mx M a0, ρ) [] s.heap.size) cL_take 24 "TradeLineLaw") (hr : meth.sig.returnType = none) (hz : s.heap.size = sz) (hρ : rsh ρ) {a : AS} {x14 : Int32} {x17 : Nat}  {k21 : AS → Int32 → Int32 → Nat → Int32 → Option (AS × Int32)} (hk21 : ∀ (a1 : AS) (z14 : Int32) (z16 : Int32) (z17 : Nat) (z18 : Int32), k21 a1 z14 z16 z17 z18 = some r0 → G p l e ({ frames := 5, cells := 0, slots := 0, locals := 152 } : Room) s m args below meth c D E (Aof (mx M a0, ρ) [] s.heap.size) 24 (MQ below (cQ D E sz (mx M a0, ρ) [] (pV (fun u => u = ((mx M r0.1, ρ), [])))) args s 0 0 (Aof (mx M a0, ρ) [] s.heap.size)) (mx M a1, ρ) [] 0 0 21 [(0, .ref (ρ.2.2.2 (40 + 1) 0)), (1, .ref (ρ.2.2.2 (40 + 2) 0)), (2, .ref (ρ.2.2.2 (40 + 3) 0)), (3, .ref (ρ.2.2.2 (40 + 4) 0)), (4, .ref (ρ.2.2.2 (40 + 5) 0)), (7, .ref (ρ.2.2.2 (40 + 8) 0)), (8, .ref (ρ.2.2.2 (40 + 9) 0)), (9, .ref (ρ.2.2.2 (40 + 10) 0)), (10, .ref (ρ.2.2.2 (40 + 11) 0)), (11, .ref (ρ.2.2.2 (40 + 12) 0)), (12, .ref (ρ.2.2.2 (40 + 13) 0)), (13, .ref (ρ.2.2.2 (40 + 14) 0)), (14, .int z14), (16, .int z16), (17, .ref (ρ.2.2.2 (40 + z17) 0)), (18, .int z18)] []) (h : b_L_take_180 k21 w a x14 x17  = some r0) : G p l e ({ frames := 5, cells := 0, slots := 0, locals := 152 } : Room) s m args below meth c D E (Aof (mx M a0, ρ) [] s.heap.size) 24 (MQ below (cQ D E sz (mx M a0, ρ) [] (pV (fun u => u = ((mx M r0.1, ρ), [])))) args s 0 0 (Aof (mx M a0, ρ) [] s.heap.size)) (mx M a, ρ) [] 0 0 180 [(0, .ref (ρ.2.2.2 (40 + 1) 0)), (1, .ref (ρ.2.2.2 (40 + 2) 0)), (2, .ref (ρ.2.2.2 (40 + 3) 0)), (3, .ref (ρ.2.2.2 (40 + 4) 0)), (4, .ref (ρ.2.2.2 (40 + 5) 0)), (7, .ref (ρ.2.2.2 (40 + 8) 0)), (8, .ref (ρ.2.2.2 (40 + 9) 0)), (9, .ref (ρ.2.2.2 (40 + 10) 0)), (10, .ref (ρ.2.2.2 (40 + 11) 0)), (11, .ref (ρ.2.2.2 (40 + 12) 0)), (12, .ref (ρ.2.2.2 (40 + 13) 0)), (13, .ref (ρ.2.2.2 (40 + 14) 0)), (14, .int x14), (17, .ref (ρ.2.2.2 (40 + x17) 0))] [] := by
  unfold b_L_take_180 at h
  refine g_iconst (v := (0 : Int32)) C dL_take_180 (by decide) ?_
  refine g_istore (lv' := [(23, .int (0 : Int32)), (0, .ref (ρ.2.2.2 (40 + 1) 0)), (1, .ref (ρ.2.2.2 (40 + 2) 0)), (2, .ref (ρ.2.2.2 (40 + 3) 0)), (3, .ref (ρ.2.2.2 (40 + 4) 0)), (4, .ref (ρ.2.2.2 (40 + 5) 0)), (7, .ref (ρ.2.2.2 (40 + 8) 0)), (8, .ref (ρ.2.2.2 (40 + 9) 0)), (9, .ref (ρ.2.2.2 (40 + 10) 0)), (10, .ref (ρ.2.2.2 (40 + 11) 0)), (11, .ref (ρ.2.2.2 (40 + 12) 0)), (12, .ref (ρ.2.2.2 (40 + 13) 0)), (13, .ref (ρ.2.2.2 (40 + 14) 0)), (14, .int x14), (17, .ref (ρ.2.2.2 (40 + x17) 0))]) C dL_take_181 (by decide) rfl ?_
  refine g_lv [1, 2, 3, 4, 5, 6, 7, 8, 9, 10, 11, 12, 13, 14, 0] rfl ?_
  exact ll_L_take_183 C hr hz hρ hk21 w _ _ _ _ h
noncomputable def b_L_take_144 (k21 : AS → Int32 → Int32 → Nat → Int32 → Option (AS × Int32)) (w : Nat) (a : AS) (x14 : Int32) (x16 : Int32) (x17 : Nat) (x20 : Int64) (x22 : Int32)  : Option (AS × Int32) := (if x16 = (0 : Int32) then ((if x22 ≤ (4 : Int32) then (b_L_take_180 k21 w a x14 x17) else ((f_L_house w a x20).bind (fun v21 => b_L_take_180 k21 w v21.1 x14 x17)))) else (b_L_take_180 k21 w a x14 x17))
set_option maxHeartbeats 4000000 in
set_option maxRecDepth 100000 in
theorem lb_L_take_144 {p : Program} {l : Launch} {e : Env} {s : State} {m : MethodId} {args : Array Value} {below : List Frame} {meth : Method} {c : Code} {D : va_G} {E : Nat → ClassId} {sz : Nat} {M : Nat → Nat → Nat → Int32} {a0 : AS} {ρ : YR} {w : Nat} {r0 : AS × Int32} (C : cx p s m args meth c D E (Aof (mx M a0, ρ) [] s.heap.size) cL_take 24 "TradeLineLaw") (hr : meth.sig.returnType = none) (hz : s.heap.size = sz) (hρ : rsh ρ) {a : AS} {x14 : Int32} {x16 : Int32} {x17 : Nat} {x20 : Int64} {x22 : Int32}  {k21 : AS → Int32 → Int32 → Nat → Int32 → Option (AS × Int32)} (hk21 : ∀ (a1 : AS) (z14 : Int32) (z16 : Int32) (z17 : Nat) (z18 : Int32), k21 a1 z14 z16 z17 z18 = some r0 → G p l e ({ frames := 5, cells := 0, slots := 0, locals := 152 } : Room) s m args below meth c D E (Aof (mx M a0, ρ) [] s.heap.size) 24 (MQ below (cQ D E sz (mx M a0, ρ) [] (pV (fun u => u = ((mx M r0.1, ρ), [])))) args s 0 0 (Aof (mx M a0, ρ) [] s.heap.size)) (mx M a1, ρ) [] 0 0 21 [(0, .ref (ρ.2.2.2 (40 + 1) 0)), (1, .ref (ρ.2.2.2 (40 + 2) 0)), (2, .ref (ρ.2.2.2 (40 + 3) 0)), (3, .ref (ρ.2.2.2 (40 + 4) 0)), (4, .ref (ρ.2.2.2 (40 + 5) 0)), (7, .ref (ρ.2.2.2 (40 + 8) 0)), (8, .ref (ρ.2.2.2 (40 + 9) 0)), (9, .ref (ρ.2.2.2 (40 + 10) 0)), (10, .ref (ρ.2.2.2 (40 + 11) 0)), (11, .ref (ρ.2.2.2 (40 + 12) 0)), (12, .ref (ρ.2.2.2 (40 + 13) 0)), (13, .ref (ρ.2.2.2 (40 + 14) 0)), (14, .int z14), (16, .int z16), (17, .ref (ρ.2.2.2 (40 + z17) 0)), (18, .int z18)] []) (h : b_L_take_144 k21 w a x14 x16 x17 x20 x22  = some r0) : G p l e ({ frames := 5, cells := 0, slots := 0, locals := 152 } : Room) s m args below meth c D E (Aof (mx M a0, ρ) [] s.heap.size) 24 (MQ below (cQ D E sz (mx M a0, ρ) [] (pV (fun u => u = ((mx M r0.1, ρ), [])))) args s 0 0 (Aof (mx M a0, ρ) [] s.heap.size)) (mx M a, ρ) [] 0 0 144 [(0, .ref (ρ.2.2.2 (40 + 1) 0)), (1, .ref (ρ.2.2.2 (40 + 2) 0)), (2, .ref (ρ.2.2.2 (40 + 3) 0)), (3, .ref (ρ.2.2.2 (40 + 4) 0)), (4, .ref (ρ.2.2.2 (40 + 5) 0)), (7, .ref (ρ.2.2.2 (40 + 8) 0)), (8, .ref (ρ.2.2.2 (40 + 9) 0)), (9, .ref (ρ.2.2.2 (40 + 10) 0)), (10, .ref (ρ.2.2.2 (40 + 11) 0)), (11, .ref (ρ.2.2.2 (40 + 12) 0)), (12, .ref (ρ.2.2.2 (40 + 13) 0)), (13, .ref (ρ.2.2.2 (40 + 14) 0)), (14, .int x14), (16, .int x16), (17, .ref (ρ.2.2.2 (40 + x17) 0)), (20, .long x20), (22, .int x22)] [] := by
  unfold b_L_take_144 at h
  refine g_iload C dL_take_144 13 rfl ?_
  refine g_if_ne (tgt := 180) C dL_take_146 (by decide) (fun c146 => ?_) (fun c146 => ?_)
  · replace h := (if_neg c146).symm.trans h
    refine g_lv [0, 1, 2, 3, 4, 5, 6, 7, 8, 9, 10, 11, 12, 14] rfl ?_
    exact lb_L_take_180 C hr hz hρ hk21 h
  · replace h := (if_pos c146).symm.trans h
    refine g_iload C dL_take_149 16 rfl ?_
    refine g_iconst (v := (4 : Int32)) C dL_take_151 (by decide) ?_
    refine g_icmp_le (tgt := 180) C dL_take_152 (by decide) (fun c152 => ?_) (fun c152 => ?_)
    · replace h := (if_pos c152).symm.trans h
      refine g_lv [0, 1, 2, 3, 4, 5, 6, 7, 8, 9, 10, 11, 12, 14] rfl ?_
      exact lb_L_take_180 C hr hz hρ hk21 h
    · replace h := (if_neg c152).symm.trans h
      refine g_aload_n C dL_take_155 rfl 0 rfl ?_
      refine g_aload_n C dL_take_156 rfl 1 rfl ?_
      refine g_aload_n C dL_take_157 rfl 2 rfl ?_
      refine g_aload_n C dL_take_158 rfl 3 rfl ?_
      refine g_aload C dL_take_159 4 rfl ?_
      refine g_aload C dL_take_161 5 rfl ?_
      refine g_aload C dL_take_163 6 rfl ?_
      refine g_aload C dL_take_165 7 rfl ?_
      refine g_aload C dL_take_167 8 rfl ?_
      refine g_aload C dL_take_169 9 rfl ?_
      refine g_aload C dL_take_171 10 rfl ?_
      refine g_aload C dL_take_173 11 rfl ?_
      refine g_lload C dL_take_175 15 rfl ?_
      obtain ⟨v21, hv21, h⟩ := bind_of h
      refine g_cSv (n := 13) (exc := []) (exr := []) C [_, _, _, _, _, _, _, _, _, _, _, _, _] _ rfl rfl [] [] rfl rfl rfl rfl (fun _ h => absurd h (by simp)) (fun _ h => absurd h (by simp)) (fun _ h => absurd h (by simp)) (fun sz => k_L_house l M ρ hρ w _ _ _ hv21 D E sz) rfl gw_1026 gw_0 gw_1024 gw_1025 ⟨by decide +kernel, by decide +kernel, by decide +kernel⟩ ⟨rfl, rfl⟩ ⟨Nat.le_of_ble_eq_true rfl, Nat.le_of_ble_eq_true rfl⟩ (Nat.le_of_ble_eq_true rfl) dL_take_177 ⟨by decide, by decide⟩ (fun u hp hx => ?_)
      obtain rfl := hp
      try dsimp only [List.append_nil]
      refine g_lv [0, 1, 2, 3, 4, 5, 6, 7, 8, 9, 10, 11, 12, 14] rfl ?_
      exact lb_L_take_180 C hr hz hρ hk21 h
noncomputable def b_L_take_112 (k21 : AS → Int32 → Int32 → Nat → Int32 → Option (AS × Int32)) (w : Nat) (a : AS) (x14 : Int32) (x16 : Int32) (x17 : Nat) (x20 : Int64) (x22 : Int32)  : Option (AS × Int32) := (if x16 = (0 : Int32) then ((if x22 = (8 : Int32) then ((f_L_trader w a x20).bind (fun v22 => b_L_take_180 k21 w v22.1 x14 x17)) else (b_L_take_144 k21 w a x14 x16 x17 x20 x22))) else (b_L_take_144 k21 w a x14 x16 x17 x20 x22))
set_option maxHeartbeats 4000000 in
set_option maxRecDepth 100000 in
theorem lb_L_take_112 {p : Program} {l : Launch} {e : Env} {s : State} {m : MethodId} {args : Array Value} {below : List Frame} {meth : Method} {c : Code} {D : va_G} {E : Nat → ClassId} {sz : Nat} {M : Nat → Nat → Nat → Int32} {a0 : AS} {ρ : YR} {w : Nat} {r0 : AS × Int32} (C : cx p s m args meth c D E (Aof (mx M a0, ρ) [] s.heap.size) cL_take 24 "TradeLineLaw") (hr : meth.sig.returnType = none) (hz : s.heap.size = sz) (hρ : rsh ρ) {a : AS} {x14 : Int32} {x16 : Int32} {x17 : Nat} {x20 : Int64} {x22 : Int32}  {k21 : AS → Int32 → Int32 → Nat → Int32 → Option (AS × Int32)} (hk21 : ∀ (a1 : AS) (z14 : Int32) (z16 : Int32) (z17 : Nat) (z18 : Int32), k21 a1 z14 z16 z17 z18 = some r0 → G p l e ({ frames := 5, cells := 0, slots := 0, locals := 152 } : Room) s m args below meth c D E (Aof (mx M a0, ρ) [] s.heap.size) 24 (MQ below (cQ D E sz (mx M a0, ρ) [] (pV (fun u => u = ((mx M r0.1, ρ), [])))) args s 0 0 (Aof (mx M a0, ρ) [] s.heap.size)) (mx M a1, ρ) [] 0 0 21 [(0, .ref (ρ.2.2.2 (40 + 1) 0)), (1, .ref (ρ.2.2.2 (40 + 2) 0)), (2, .ref (ρ.2.2.2 (40 + 3) 0)), (3, .ref (ρ.2.2.2 (40 + 4) 0)), (4, .ref (ρ.2.2.2 (40 + 5) 0)), (7, .ref (ρ.2.2.2 (40 + 8) 0)), (8, .ref (ρ.2.2.2 (40 + 9) 0)), (9, .ref (ρ.2.2.2 (40 + 10) 0)), (10, .ref (ρ.2.2.2 (40 + 11) 0)), (11, .ref (ρ.2.2.2 (40 + 12) 0)), (12, .ref (ρ.2.2.2 (40 + 13) 0)), (13, .ref (ρ.2.2.2 (40 + 14) 0)), (14, .int z14), (16, .int z16), (17, .ref (ρ.2.2.2 (40 + z17) 0)), (18, .int z18)] []) (h : b_L_take_112 k21 w a x14 x16 x17 x20 x22  = some r0) : G p l e ({ frames := 5, cells := 0, slots := 0, locals := 152 } : Room) s m args below meth c D E (Aof (mx M a0, ρ) [] s.heap.size) 24 (MQ below (cQ D E sz (mx M a0, ρ) [] (pV (fun u => u = ((mx M r0.1, ρ), [])))) args s 0 0 (Aof (mx M a0, ρ) [] s.heap.size)) (mx M a, ρ) [] 0 0 112 [(0, .ref (ρ.2.2.2 (40 + 1) 0)), (1, .ref (ρ.2.2.2 (40 + 2) 0)), (2, .ref (ρ.2.2.2 (40 + 3) 0)), (3, .ref (ρ.2.2.2 (40 + 4) 0)), (4, .ref (ρ.2.2.2 (40 + 5) 0)), (7, .ref (ρ.2.2.2 (40 + 8) 0)), (8, .ref (ρ.2.2.2 (40 + 9) 0)), (9, .ref (ρ.2.2.2 (40 + 10) 0)), (10, .ref (ρ.2.2.2 (40 + 11) 0)), (11, .ref (ρ.2.2.2 (40 + 12) 0)), (12, .ref (ρ.2.2.2 (40 + 13) 0)), (13, .ref (ρ.2.2.2 (40 + 14) 0)), (14, .int x14), (16, .int x16), (17, .ref (ρ.2.2.2 (40 + x17) 0)), (20, .long x20), (22, .int x22)] [] := by
  unfold b_L_take_112 at h
  refine g_iload C dL_take_112 13 rfl ?_
  refine g_if_ne (tgt := 144) C dL_take_114 (by decide) (fun c114 => ?_) (fun c114 => ?_)
  · replace h := (if_neg c114).symm.trans h
    refine g_lv [0, 1, 2, 3, 4, 5, 6, 7, 8, 9, 10, 11, 12, 13, 14, 15, 16] rfl ?_
    exact lb_L_take_144 C hr hz hρ hk21 h
  · replace h := (if_pos c114).symm.trans h
    refine g_iload C dL_take_117 16 rfl ?_
    refine g_bipush (v := (8 : Int32)) C dL_take_119 (by decide) ?_
    refine g_icmp_ne (tgt := 144) C dL_take_121 (by decide) (fun c121 => ?_) (fun c121 => ?_)
    · replace h := (if_neg c121).symm.trans h
      refine g_lv [0, 1, 2, 3, 4, 5, 6, 7, 8, 9, 10, 11, 12, 13, 14, 15, 16] rfl ?_
      exact lb_L_take_144 C hr hz hρ hk21 h
    · replace h := (if_pos c121).symm.trans h
      refine g_aload C dL_take_124 5 rfl ?_
      refine g_aload C dL_take_126 6 rfl ?_
      refine g_aload C dL_take_128 7 rfl ?_
      refine g_aload C dL_take_130 8 rfl ?_
      refine g_aload C dL_take_132 9 rfl ?_
      refine g_aload C dL_take_134 10 rfl ?_
      refine g_lload C dL_take_136 15 rfl ?_
      obtain ⟨v22, hv22, h⟩ := bind_of h
      refine g_cSv (n := 7) (exc := []) (exr := []) C [_, _, _, _, _, _, _] _ rfl rfl [] [] rfl rfl rfl rfl (fun _ h => absurd h (by simp)) (fun _ h => absurd h (by simp)) (fun _ h => absurd h (by simp)) (fun sz => k_L_trader l M ρ hρ w _ _ _ hv22 D E sz) rfl gw_1013 gw_0 gw_1011 gw_1012 ⟨by decide +kernel, by decide +kernel, by decide +kernel⟩ ⟨rfl, rfl⟩ ⟨Nat.le_of_ble_eq_true rfl, Nat.le_of_ble_eq_true rfl⟩ (Nat.le_of_ble_eq_true rfl) dL_take_138 ⟨by decide, by decide⟩ (fun u hp hx => ?_)
      obtain rfl := hp
      try dsimp only [List.append_nil]
      refine g_goto (tgt := 180) C dL_take_141 (by decide) ?_
      refine g_lv [0, 1, 2, 3, 4, 5, 6, 7, 8, 9, 10, 11, 12, 14] rfl ?_
      exact lb_L_take_180 C hr hz hρ hk21 h
noncomputable def b_L_take_84 (k21 : AS → Int32 → Int32 → Nat → Int32 → Option (AS × Int32)) (w : Nat) (a : AS) (x14 : Int32) (x16 : Int32) (x17 : Nat) (x20 : Int64) (x22 : Int32) (s0 : Int32) (s1 : Int32) (s2 : Nat) : Option (AS × Int32) := bif inB s2 22 then bif ixB s1 22 then yl (up2 a s2 s1.toNatClampNeg s0) (fun a9 => (if x16 = (0 : Int32) then ((if x22 = (2 : Int32) then ((f_L_send w a9 x14 (1 : Int32) (0 : Int32) (0 : Int32) (0 : Int32) (0 : Int32)).bind (fun v23 => b_L_take_112 k21 w v23.1 x14 x16 x17 x20 x22)) else (b_L_take_112 k21 w a9 x14 x16 x17 x20 x22))) else (b_L_take_112 k21 w a9 x14 x16 x17 x20 x22))) else none else none
set_option maxHeartbeats 4000000 in
set_option maxRecDepth 100000 in
theorem lb_L_take_84 {p : Program} {l : Launch} {e : Env} {s : State} {m : MethodId} {args : Array Value} {below : List Frame} {meth : Method} {c : Code} {D : va_G} {E : Nat → ClassId} {sz : Nat} {M : Nat → Nat → Nat → Int32} {a0 : AS} {ρ : YR} {w : Nat} {r0 : AS × Int32} (C : cx p s m args meth c D E (Aof (mx M a0, ρ) [] s.heap.size) cL_take 24 "TradeLineLaw") (hr : meth.sig.returnType = none) (hz : s.heap.size = sz) (hρ : rsh ρ) {a : AS} {x14 : Int32} {x16 : Int32} {x17 : Nat} {x20 : Int64} {x22 : Int32} {s0 : Int32} {s1 : Int32} {s2 : Nat} {k21 : AS → Int32 → Int32 → Nat → Int32 → Option (AS × Int32)} (hk21 : ∀ (a1 : AS) (z14 : Int32) (z16 : Int32) (z17 : Nat) (z18 : Int32), k21 a1 z14 z16 z17 z18 = some r0 → G p l e ({ frames := 5, cells := 0, slots := 0, locals := 152 } : Room) s m args below meth c D E (Aof (mx M a0, ρ) [] s.heap.size) 24 (MQ below (cQ D E sz (mx M a0, ρ) [] (pV (fun u => u = ((mx M r0.1, ρ), [])))) args s 0 0 (Aof (mx M a0, ρ) [] s.heap.size)) (mx M a1, ρ) [] 0 0 21 [(0, .ref (ρ.2.2.2 (40 + 1) 0)), (1, .ref (ρ.2.2.2 (40 + 2) 0)), (2, .ref (ρ.2.2.2 (40 + 3) 0)), (3, .ref (ρ.2.2.2 (40 + 4) 0)), (4, .ref (ρ.2.2.2 (40 + 5) 0)), (7, .ref (ρ.2.2.2 (40 + 8) 0)), (8, .ref (ρ.2.2.2 (40 + 9) 0)), (9, .ref (ρ.2.2.2 (40 + 10) 0)), (10, .ref (ρ.2.2.2 (40 + 11) 0)), (11, .ref (ρ.2.2.2 (40 + 12) 0)), (12, .ref (ρ.2.2.2 (40 + 13) 0)), (13, .ref (ρ.2.2.2 (40 + 14) 0)), (14, .int z14), (16, .int z16), (17, .ref (ρ.2.2.2 (40 + z17) 0)), (18, .int z18)] []) (h : b_L_take_84 k21 w a x14 x16 x17 x20 x22 s0 s1 s2 = some r0) : G p l e ({ frames := 5, cells := 0, slots := 0, locals := 152 } : Room) s m args below meth c D E (Aof (mx M a0, ρ) [] s.heap.size) 24 (MQ below (cQ D E sz (mx M a0, ρ) [] (pV (fun u => u = ((mx M r0.1, ρ), [])))) args s 0 0 (Aof (mx M a0, ρ) [] s.heap.size)) (mx M a, ρ) [] 0 0 84 [(0, .ref (ρ.2.2.2 (40 + 1) 0)), (1, .ref (ρ.2.2.2 (40 + 2) 0)), (2, .ref (ρ.2.2.2 (40 + 3) 0)), (3, .ref (ρ.2.2.2 (40 + 4) 0)), (4, .ref (ρ.2.2.2 (40 + 5) 0)), (7, .ref (ρ.2.2.2 (40 + 8) 0)), (8, .ref (ρ.2.2.2 (40 + 9) 0)), (9, .ref (ρ.2.2.2 (40 + 10) 0)), (10, .ref (ρ.2.2.2 (40 + 11) 0)), (11, .ref (ρ.2.2.2 (40 + 12) 0)), (12, .ref (ρ.2.2.2 (40 + 13) 0)), (13, .ref (ρ.2.2.2 (40 + 14) 0)), (14, .int x14), (16, .int x16), (17, .ref (ρ.2.2.2 (40 + x17) 0)), (20, .long x20), (22, .int x22)] [.int s0, .int s1, .ref (ρ.2.2.2 (40 + s2) 0)] := by
  unfold b_L_take_84 at h
  obtain ⟨g7, h⟩ := of_guard h
  obtain ⟨g8, h⟩ := of_guard h
  refine q_iast C hρ (j := s2) (N := 22) g7 rfl g8 dL_take_84 (fun a9 ea9 => ?_)
  replace h := yl_of h ea9
  refine g_iload C dL_take_85 13 rfl ?_
  refine g_if_ne (tgt := 112) C dL_take_87 (by decide) (fun c87 => ?_) (fun c87 => ?_)
  · replace h := (if_neg c87).symm.trans h
    refine g_lv [0, 1, 2, 3, 4, 5, 6, 7, 8, 9, 10, 11, 12, 13, 14, 15, 16] rfl ?_
    exact lb_L_take_112 C hr hz hρ hk21 h
  · replace h := (if_pos c87).symm.trans h
    refine g_iload C dL_take_90 16 rfl ?_
    refine g_iconst (v := (2 : Int32)) C dL_take_92 (by decide) ?_
    refine g_icmp_ne (tgt := 112) C dL_take_93 (by decide) (fun c93 => ?_) (fun c93 => ?_)
    · replace h := (if_neg c93).symm.trans h
      refine g_lv [0, 1, 2, 3, 4, 5, 6, 7, 8, 9, 10, 11, 12, 13, 14, 15, 16] rfl ?_
      exact lb_L_take_112 C hr hz hρ hk21 h
    · replace h := (if_pos c93).symm.trans h
      refine g_aload_n C dL_take_96 rfl 0 rfl ?_
      refine g_aload_n C dL_take_97 rfl 1 rfl ?_
      refine g_aload_n C dL_take_98 rfl 2 rfl ?_
      refine g_aload_n C dL_take_99 rfl 3 rfl ?_
      refine g_aload C dL_take_100 4 rfl ?_
      refine g_iload C dL_take_102 12 rfl ?_
      refine g_iconst (v := (1 : Int32)) C dL_take_104 (by decide) ?_
      refine g_iconst (v := (0 : Int32)) C dL_take_105 (by decide) ?_
      refine g_iconst (v := (0 : Int32)) C dL_take_106 (by decide) ?_
      refine g_iconst (v := (0 : Int32)) C dL_take_107 (by decide) ?_
      refine g_iconst (v := (0 : Int32)) C dL_take_108 (by decide) ?_
      obtain ⟨v23, hv23, h⟩ := bind_of h
      refine g_cSv (n := 11) (exc := []) (exr := []) C [_, _, _, _, _, _, _, _, _, _, _] _ rfl rfl [] [] rfl rfl rfl rfl (fun _ h => absurd h (by simp)) (fun _ h => absurd h (by simp)) (fun _ h => absurd h (by simp)) (fun sz => k_L_send l M ρ hρ w _ _ _ _ _ _ _ _ hv23 D E sz) rfl gw_458 gw_0 gw_456 gw_457 ⟨by decide +kernel, by decide +kernel, by decide +kernel⟩ ⟨rfl, rfl⟩ ⟨Nat.le_of_ble_eq_true rfl, Nat.le_of_ble_eq_true rfl⟩ (Nat.le_of_ble_eq_true rfl) dL_take_109 ⟨by decide, by decide⟩ (fun u hp hx => ?_)
      obtain rfl := hp
      try dsimp only [List.append_nil]
      refine g_lv [0, 1, 2, 3, 4, 5, 6, 7, 8, 9, 10, 11, 12, 13, 14, 15, 16] rfl ?_
      exact lb_L_take_112 C hr hz hρ hk21 h
noncomputable def b_L_take_46 (k21 : AS → Int32 → Int32 → Nat → Int32 → Option (AS × Int32)) (w : Nat) (a : AS) (x14 : Int32) (x16 : Int32) (x17 : Nat) (x19 : Int32) (s0 : Nat) : Option (AS × Int32) := bif lnB s0 64 then bif ixB x19 64 then yl ((lgA a s0 x19.toNatClampNeg)) (fun t5 => yl ((Int64.toInt32 (t5 &&& (15 : Int64)))) (fun t6 => (if x16 ≤ (x19 + (1 : Int32)) then (b_L_take_84 k21 w a x14 x16 x17 t5 t6 (x19 + (1 : Int32)) ((6 : Int32) + x14) 1) else (b_L_take_84 k21 w a x14 x16 x17 t5 t6 x16 ((6 : Int32) + x14) 1)))) else none else none
set_option maxHeartbeats 4000000 in
set_option maxRecDepth 100000 in
theorem lb_L_take_46 {p : Program} {l : Launch} {e : Env} {s : State} {m : MethodId} {args : Array Value} {below : List Frame} {meth : Method} {c : Code} {D : va_G} {E : Nat → ClassId} {sz : Nat} {M : Nat → Nat → Nat → Int32} {a0 : AS} {ρ : YR} {w : Nat} {r0 : AS × Int32} (C : cx p s m args meth c D E (Aof (mx M a0, ρ) [] s.heap.size) cL_take 24 "TradeLineLaw") (hr : meth.sig.returnType = none) (hz : s.heap.size = sz) (hρ : rsh ρ) {a : AS} {x14 : Int32} {x16 : Int32} {x17 : Nat} {x19 : Int32} {s0 : Nat} {k21 : AS → Int32 → Int32 → Nat → Int32 → Option (AS × Int32)} (hk21 : ∀ (a1 : AS) (z14 : Int32) (z16 : Int32) (z17 : Nat) (z18 : Int32), k21 a1 z14 z16 z17 z18 = some r0 → G p l e ({ frames := 5, cells := 0, slots := 0, locals := 152 } : Room) s m args below meth c D E (Aof (mx M a0, ρ) [] s.heap.size) 24 (MQ below (cQ D E sz (mx M a0, ρ) [] (pV (fun u => u = ((mx M r0.1, ρ), [])))) args s 0 0 (Aof (mx M a0, ρ) [] s.heap.size)) (mx M a1, ρ) [] 0 0 21 [(0, .ref (ρ.2.2.2 (40 + 1) 0)), (1, .ref (ρ.2.2.2 (40 + 2) 0)), (2, .ref (ρ.2.2.2 (40 + 3) 0)), (3, .ref (ρ.2.2.2 (40 + 4) 0)), (4, .ref (ρ.2.2.2 (40 + 5) 0)), (7, .ref (ρ.2.2.2 (40 + 8) 0)), (8, .ref (ρ.2.2.2 (40 + 9) 0)), (9, .ref (ρ.2.2.2 (40 + 10) 0)), (10, .ref (ρ.2.2.2 (40 + 11) 0)), (11, .ref (ρ.2.2.2 (40 + 12) 0)), (12, .ref (ρ.2.2.2 (40 + 13) 0)), (13, .ref (ρ.2.2.2 (40 + 14) 0)), (14, .int z14), (16, .int z16), (17, .ref (ρ.2.2.2 (40 + z17) 0)), (18, .int z18)] []) (h : b_L_take_46 k21 w a x14 x16 x17 x19 s0 = some r0) : G p l e ({ frames := 5, cells := 0, slots := 0, locals := 152 } : Room) s m args below meth c D E (Aof (mx M a0, ρ) [] s.heap.size) 24 (MQ below (cQ D E sz (mx M a0, ρ) [] (pV (fun u => u = ((mx M r0.1, ρ), [])))) args s 0 0 (Aof (mx M a0, ρ) [] s.heap.size)) (mx M a, ρ) [] 0 0 46 [(0, .ref (ρ.2.2.2 (40 + 1) 0)), (1, .ref (ρ.2.2.2 (40 + 2) 0)), (2, .ref (ρ.2.2.2 (40 + 3) 0)), (3, .ref (ρ.2.2.2 (40 + 4) 0)), (4, .ref (ρ.2.2.2 (40 + 5) 0)), (7, .ref (ρ.2.2.2 (40 + 8) 0)), (8, .ref (ρ.2.2.2 (40 + 9) 0)), (9, .ref (ρ.2.2.2 (40 + 10) 0)), (10, .ref (ρ.2.2.2 (40 + 11) 0)), (11, .ref (ρ.2.2.2 (40 + 12) 0)), (12, .ref (ρ.2.2.2 (40 + 13) 0)), (13, .ref (ρ.2.2.2 (40 + 14) 0)), (14, .int x14), (16, .int x16), (17, .ref (ρ.2.2.2 (40 + x17) 0)), (19, .int x19)] [.ref (ρ.2.2.2 (40 + s0) 0)] := by
  unfold b_L_take_46 at h
  refine g_iload C dL_take_46 15 rfl ?_
  obtain ⟨g3, h⟩ := of_guard h
  obtain ⟨g4, h⟩ := of_guard h
  refine q_lald C hρ (j := s0) (N := 64) g3 rfl g4 dL_take_48 ?_
  refine q_topl (fun t5 et5 => ?_)
  replace h := yl_of h et5
  refine g_lstore (lv' := [(20, .long t5), (0, .ref (ρ.2.2.2 (40 + 1) 0)), (1, .ref (ρ.2.2.2 (40 + 2) 0)), (2, .ref (ρ.2.2.2 (40 + 3) 0)), (3, .ref (ρ.2.2.2 (40 + 4) 0)), (4, .ref (ρ.2.2.2 (40 + 5) 0)), (7, .ref (ρ.2.2.2 (40 + 8) 0)), (8, .ref (ρ.2.2.2 (40 + 9) 0)), (9, .ref (ρ.2.2.2 (40 + 10) 0)), (10, .ref (ρ.2.2.2 (40 + 11) 0)), (11, .ref (ρ.2.2.2 (40 + 12) 0)), (12, .ref (ρ.2.2.2 (40 + 13) 0)), (13, .ref (ρ.2.2.2 (40 + 14) 0)), (14, .int x14), (16, .int x16), (17, .ref (ρ.2.2.2 (40 + x17) 0)), (19, .int x19)]) C dL_take_49 (by decide) rfl ?_
  refine g_lload C dL_take_51 0 rfl ?_
  refine g_ldc2 (v := (15 : Int64)) C gw_999 dL_take_53 ?_
  refine g_land C dL_take_56 ?_
  refine g_l2i C dL_take_57 ?_
  refine q_topi (fun t6 et6 => ?_)
  replace h := yl_of h et6
  refine g_istore (lv' := [(22, .int t6), (20, .long t5), (0, .ref (ρ.2.2.2 (40 + 1) 0)), (1, .ref (ρ.2.2.2 (40 + 2) 0)), (2, .ref (ρ.2.2.2 (40 + 3) 0)), (3, .ref (ρ.2.2.2 (40 + 4) 0)), (4, .ref (ρ.2.2.2 (40 + 5) 0)), (7, .ref (ρ.2.2.2 (40 + 8) 0)), (8, .ref (ρ.2.2.2 (40 + 9) 0)), (9, .ref (ρ.2.2.2 (40 + 10) 0)), (10, .ref (ρ.2.2.2 (40 + 11) 0)), (11, .ref (ρ.2.2.2 (40 + 12) 0)), (12, .ref (ρ.2.2.2 (40 + 13) 0)), (13, .ref (ρ.2.2.2 (40 + 14) 0)), (14, .int x14), (16, .int x16), (17, .ref (ρ.2.2.2 (40 + x17) 0)), (19, .int x19)]) C dL_take_58 (by decide) rfl ?_
  refine g_aload_n C dL_take_60 rfl 2 rfl ?_
  refine g_bipush (v := (6 : Int32)) C dL_take_61 (by decide) ?_
  refine g_iload C dL_take_63 14 rfl ?_
  refine g_iadd C dL_take_65 ?_
  refine g_iload C dL_take_66 15 rfl ?_
  refine g_iload C dL_take_68 17 rfl ?_
  refine g_iconst (v := (1 : Int32)) C dL_take_70 (by decide) ?_
  refine g_iadd C dL_take_71 ?_
  refine g_icmp_le (tgt := 80) C dL_take_72 (by decide) (fun c72 => ?_) (fun c72 => ?_)
  · replace h := (if_pos c72).symm.trans h
    refine g_iload C dL_take_80 17 rfl ?_
    refine g_iconst (v := (1 : Int32)) C dL_take_82 (by decide) ?_
    refine g_iadd C dL_take_83 ?_
    refine g_lv [2, 3, 4, 5, 6, 7, 8, 9, 10, 11, 12, 13, 14, 15, 16, 1, 0] rfl ?_
    exact lb_L_take_84 C hr hz hρ hk21 h
  · replace h := (if_neg c72).symm.trans h
    refine g_iload C dL_take_75 15 rfl ?_
    refine g_goto (tgt := 84) C dL_take_77 (by decide) ?_
    refine g_lv [2, 3, 4, 5, 6, 7, 8, 9, 10, 11, 12, 13, 14, 15, 16, 1, 0] rfl ?_
    exact lb_L_take_84 C hr hz hρ hk21 h
noncomputable def b_L_take_21 (k21 : AS → Int32 → Int32 → Nat → Int32 → Option (AS × Int32)) (w : Nat) (a : AS) (x14 : Int32) (x16 : Int32) (x17 : Nat) (x18 : Int32)  : Option (AS × Int32) := (if x18 = (0 : Int32) then (some (a, (0 : Int32))) else (bif ixB ((6 : Int32) + x14) 22 then yl ((a 1 ((6 : Int32) + x14).toNatClampNeg)) (fun t2 => (if x14 = (0 : Int32) then (b_L_take_46 k21 w a x14 x16 x17 t2 5) else (b_L_take_46 k21 w a x14 x16 x17 t2 4))) else none))
set_option maxHeartbeats 4000000 in
set_option maxRecDepth 100000 in
theorem lb_L_take_21 {p : Program} {l : Launch} {e : Env} {s : State} {m : MethodId} {args : Array Value} {below : List Frame} {meth : Method} {c : Code} {D : va_G} {E : Nat → ClassId} {sz : Nat} {M : Nat → Nat → Nat → Int32} {a0 : AS} {ρ : YR} {w : Nat} {r0 : AS × Int32} (C : cx p s m args meth c D E (Aof (mx M a0, ρ) [] s.heap.size) cL_take 24 "TradeLineLaw") (hr : meth.sig.returnType = none) (hz : s.heap.size = sz) (hρ : rsh ρ) {a : AS} {x14 : Int32} {x16 : Int32} {x17 : Nat} {x18 : Int32}  {k21 : AS → Int32 → Int32 → Nat → Int32 → Option (AS × Int32)} (hk21 : ∀ (a1 : AS) (z14 : Int32) (z16 : Int32) (z17 : Nat) (z18 : Int32), k21 a1 z14 z16 z17 z18 = some r0 → G p l e ({ frames := 5, cells := 0, slots := 0, locals := 152 } : Room) s m args below meth c D E (Aof (mx M a0, ρ) [] s.heap.size) 24 (MQ below (cQ D E sz (mx M a0, ρ) [] (pV (fun u => u = ((mx M r0.1, ρ), [])))) args s 0 0 (Aof (mx M a0, ρ) [] s.heap.size)) (mx M a1, ρ) [] 0 0 21 [(0, .ref (ρ.2.2.2 (40 + 1) 0)), (1, .ref (ρ.2.2.2 (40 + 2) 0)), (2, .ref (ρ.2.2.2 (40 + 3) 0)), (3, .ref (ρ.2.2.2 (40 + 4) 0)), (4, .ref (ρ.2.2.2 (40 + 5) 0)), (7, .ref (ρ.2.2.2 (40 + 8) 0)), (8, .ref (ρ.2.2.2 (40 + 9) 0)), (9, .ref (ρ.2.2.2 (40 + 10) 0)), (10, .ref (ρ.2.2.2 (40 + 11) 0)), (11, .ref (ρ.2.2.2 (40 + 12) 0)), (12, .ref (ρ.2.2.2 (40 + 13) 0)), (13, .ref (ρ.2.2.2 (40 + 14) 0)), (14, .int z14), (16, .int z16), (17, .ref (ρ.2.2.2 (40 + z17) 0)), (18, .int z18)] []) (h : b_L_take_21 k21 w a x14 x16 x17 x18  = some r0) : G p l e ({ frames := 5, cells := 0, slots := 0, locals := 152 } : Room) s m args below meth c D E (Aof (mx M a0, ρ) [] s.heap.size) 24 (MQ below (cQ D E sz (mx M a0, ρ) [] (pV (fun u => u = ((mx M r0.1, ρ), [])))) args s 0 0 (Aof (mx M a0, ρ) [] s.heap.size)) (mx M a, ρ) [] 0 0 21 [(0, .ref (ρ.2.2.2 (40 + 1) 0)), (1, .ref (ρ.2.2.2 (40 + 2) 0)), (2, .ref (ρ.2.2.2 (40 + 3) 0)), (3, .ref (ρ.2.2.2 (40 + 4) 0)), (4, .ref (ρ.2.2.2 (40 + 5) 0)), (7, .ref (ρ.2.2.2 (40 + 8) 0)), (8, .ref (ρ.2.2.2 (40 + 9) 0)), (9, .ref (ρ.2.2.2 (40 + 10) 0)), (10, .ref (ρ.2.2.2 (40 + 11) 0)), (11, .ref (ρ.2.2.2 (40 + 12) 0)), (12, .ref (ρ.2.2.2 (40 + 13) 0)), (13, .ref (ρ.2.2.2 (40 + 14) 0)), (14, .int x14), (16, .int x16), (17, .ref (ρ.2.2.2 (40 + x17) 0)), (18, .int x18)] [] := by
  unfold b_L_take_21 at h
  refine g_iload C dL_take_21 15 rfl ?_
  refine g_if_eq (tgt := 272) C dL_take_23 (by decide) (fun c23 => ?_) (fun c23 => ?_)
  · replace h := (if_pos c23).symm.trans h
    obtain rfl := Option.some.inj h
    exact g_vret C hr hz ⟨rfl, rfl, fun _ => rfl, fun _ => rfl⟩ rfl (fun j x h => by simp at h) dL_take_272
  · replace h := (if_neg c23).symm.trans h
    refine g_aload_n C dL_take_26 rfl 0 rfl ?_
    refine g_bipush (v := (6 : Int32)) C dL_take_27 (by decide) ?_
    refine g_iload C dL_take_29 12 rfl ?_
    refine g_iadd C dL_take_31 ?_
    obtain ⟨g1, h⟩ := of_guard h
    refine q_iald C hρ (j := 1) (N := 22) (by decide) rfl g1 dL_take_32 ?_
    refine q_topi (fun t2 et2 => ?_)
    replace h := yl_of h et2
    refine g_istore (lv' := [(19, .int t2), (0, .ref (ρ.2.2.2 (40 + 1) 0)), (1, .ref (ρ.2.2.2 (40 + 2) 0)), (2, .ref (ρ.2.2.2 (40 + 3) 0)), (3, .ref (ρ.2.2.2 (40 + 4) 0)), (4, .ref (ρ.2.2.2 (40 + 5) 0)), (7, .ref (ρ.2.2.2 (40 + 8) 0)), (8, .ref (ρ.2.2.2 (40 + 9) 0)), (9, .ref (ρ.2.2.2 (40 + 10) 0)), (10, .ref (ρ.2.2.2 (40 + 11) 0)), (11, .ref (ρ.2.2.2 (40 + 12) 0)), (12, .ref (ρ.2.2.2 (40 + 13) 0)), (13, .ref (ρ.2.2.2 (40 + 14) 0)), (14, .int x14), (16, .int x16), (17, .ref (ρ.2.2.2 (40 + x17) 0)), (18, .int x18)]) C dL_take_33 (by decide) rfl ?_
    refine g_iload C dL_take_35 13 rfl ?_
    refine g_if_ne (tgt := 45) C dL_take_37 (by decide) (fun c37 => ?_) (fun c37 => ?_)
    · replace h := (if_neg c37).symm.trans h
      refine g_aload_n C dL_take_45 rfl 4 rfl ?_
      refine g_lv [1, 2, 3, 4, 5, 6, 7, 8, 9, 10, 11, 12, 13, 14, 15, 0] rfl ?_
      exact lb_L_take_46 C hr hz hρ hk21 h
    · replace h := (if_pos c37).symm.trans h
      refine g_aload C dL_take_40 5 rfl ?_
      refine g_goto (tgt := 46) C dL_take_42 (by decide) ?_
      refine g_lv [1, 2, 3, 4, 5, 6, 7, 8, 9, 10, 11, 12, 13, 14, 15, 0] rfl ?_
      exact lb_L_take_46 C hr hz hρ hk21 h
noncomputable def l_L_take_21  (w : Nat) : Nat → AS → Int32 → Int32 → Nat → Int32 → Option (AS × Int32)
  | 0 => fun _ _ _ _ _ => none
  | n + 1 => fun a x14 x16 x17 x18 => b_L_take_21  (l_L_take_21  w n) w a x14 x16 x17 x18
theorem ll_L_take_21 {p : Program} {l : Launch} {e : Env} {s : State} {m : MethodId} {args : Array Value} {below : List Frame} {meth : Method} {c : Code} {D : va_G} {E : Nat → ClassId} {sz : Nat} {M : Nat → Nat → Nat → Int32} {a0 : AS} {ρ : YR} {w : Nat} {r0 : AS × Int32} (C : cx p s m args meth c D E (Aof (mx M a0, ρ) [] s.heap.size) cL_take 24 "TradeLineLaw") (hr : meth.sig.returnType = none) (hz : s.heap.size = sz) (hρ : rsh ρ)   : ∀ (n : Nat) (a : AS) (x14 : Int32) (x16 : Int32) (x17 : Nat) (x18 : Int32), l_L_take_21  w n a x14 x16 x17 x18 = some r0 → G p l e ({ frames := 5, cells := 0, slots := 0, locals := 152 } : Room) s m args below meth c D E (Aof (mx M a0, ρ) [] s.heap.size) 24 (MQ below (cQ D E sz (mx M a0, ρ) [] (pV (fun u => u = ((mx M r0.1, ρ), [])))) args s 0 0 (Aof (mx M a0, ρ) [] s.heap.size)) (mx M a, ρ) [] 0 0 21 [(0, .ref (ρ.2.2.2 (40 + 1) 0)), (1, .ref (ρ.2.2.2 (40 + 2) 0)), (2, .ref (ρ.2.2.2 (40 + 3) 0)), (3, .ref (ρ.2.2.2 (40 + 4) 0)), (4, .ref (ρ.2.2.2 (40 + 5) 0)), (7, .ref (ρ.2.2.2 (40 + 8) 0)), (8, .ref (ρ.2.2.2 (40 + 9) 0)), (9, .ref (ρ.2.2.2 (40 + 10) 0)), (10, .ref (ρ.2.2.2 (40 + 11) 0)), (11, .ref (ρ.2.2.2 (40 + 12) 0)), (12, .ref (ρ.2.2.2 (40 + 13) 0)), (13, .ref (ρ.2.2.2 (40 + 14) 0)), (14, .int x14), (16, .int x16), (17, .ref (ρ.2.2.2 (40 + x17) 0)), (18, .int x18)] [] := by
  intro n
  induction n with
  | zero => exact fun a x14 x16 x17 x18 h => absurd (show (none : Option (AS × Int32)) = some r0 from h) (by simp)
  | succ n ih => exact fun a x14 x16 x17 x18 h => lb_L_take_21 (w := w) C hr hz hρ  ih h
noncomputable def b_L_take_16  (w : Nat) (a : AS) (x14 : Int32) (x16 : Int32) (s0 : Nat) : Option (AS × Int32) := l_L_take_21  w w a x14 x16 s0 (1 : Int32)
set_option maxHeartbeats 4000000 in
set_option maxRecDepth 100000 in
theorem lb_L_take_16 {p : Program} {l : Launch} {e : Env} {s : State} {m : MethodId} {args : Array Value} {below : List Frame} {meth : Method} {c : Code} {D : va_G} {E : Nat → ClassId} {sz : Nat} {M : Nat → Nat → Nat → Int32} {a0 : AS} {ρ : YR} {w : Nat} {r0 : AS × Int32} (C : cx p s m args meth c D E (Aof (mx M a0, ρ) [] s.heap.size) cL_take 24 "TradeLineLaw") (hr : meth.sig.returnType = none) (hz : s.heap.size = sz) (hρ : rsh ρ) {a : AS} {x14 : Int32} {x16 : Int32} {s0 : Nat}   (h : b_L_take_16  w a x14 x16 s0 = some r0) : G p l e ({ frames := 5, cells := 0, slots := 0, locals := 152 } : Room) s m args below meth c D E (Aof (mx M a0, ρ) [] s.heap.size) 24 (MQ below (cQ D E sz (mx M a0, ρ) [] (pV (fun u => u = ((mx M r0.1, ρ), [])))) args s 0 0 (Aof (mx M a0, ρ) [] s.heap.size)) (mx M a, ρ) [] 0 0 16 [(0, .ref (ρ.2.2.2 (40 + 1) 0)), (1, .ref (ρ.2.2.2 (40 + 2) 0)), (2, .ref (ρ.2.2.2 (40 + 3) 0)), (3, .ref (ρ.2.2.2 (40 + 4) 0)), (4, .ref (ρ.2.2.2 (40 + 5) 0)), (7, .ref (ρ.2.2.2 (40 + 8) 0)), (8, .ref (ρ.2.2.2 (40 + 9) 0)), (9, .ref (ρ.2.2.2 (40 + 10) 0)), (10, .ref (ρ.2.2.2 (40 + 11) 0)), (11, .ref (ρ.2.2.2 (40 + 12) 0)), (12, .ref (ρ.2.2.2 (40 + 13) 0)), (13, .ref (ρ.2.2.2 (40 + 14) 0)), (14, .int x14), (16, .int x16)] [.ref (ρ.2.2.2 (40 + s0) 0)] := by
  unfold b_L_take_16 at h
  refine g_astore (lv' := [(17, .ref (ρ.2.2.2 (40 + s0) 0)), (0, .ref (ρ.2.2.2 (40 + 1) 0)), (1, .ref (ρ.2.2.2 (40 + 2) 0)), (2, .ref (ρ.2.2.2 (40 + 3) 0)), (3, .ref (ρ.2.2.2 (40 + 4) 0)), (4, .ref (ρ.2.2.2 (40 + 5) 0)), (7, .ref (ρ.2.2.2 (40 + 8) 0)), (8, .ref (ρ.2.2.2 (40 + 9) 0)), (9, .ref (ρ.2.2.2 (40 + 10) 0)), (10, .ref (ρ.2.2.2 (40 + 11) 0)), (11, .ref (ρ.2.2.2 (40 + 12) 0)), (12, .ref (ρ.2.2.2 (40 + 13) 0)), (13, .ref (ρ.2.2.2 (40 + 14) 0)), (14, .int x14), (16, .int x16)]) C dL_take_16 (by decide) rfl ?_
  refine g_iconst (v := (1 : Int32)) C dL_take_18 (by decide) ?_
  refine g_istore (lv' := [(18, .int (1 : Int32)), (17, .ref (ρ.2.2.2 (40 + s0) 0)), (0, .ref (ρ.2.2.2 (40 + 1) 0)), (1, .ref (ρ.2.2.2 (40 + 2) 0)), (2, .ref (ρ.2.2.2 (40 + 3) 0)), (3, .ref (ρ.2.2.2 (40 + 4) 0)), (4, .ref (ρ.2.2.2 (40 + 5) 0)), (7, .ref (ρ.2.2.2 (40 + 8) 0)), (8, .ref (ρ.2.2.2 (40 + 9) 0)), (9, .ref (ρ.2.2.2 (40 + 10) 0)), (10, .ref (ρ.2.2.2 (40 + 11) 0)), (11, .ref (ρ.2.2.2 (40 + 12) 0)), (12, .ref (ρ.2.2.2 (40 + 13) 0)), (13, .ref (ρ.2.2.2 (40 + 14) 0)), (14, .int x14), (16, .int x16)]) C dL_take_19 (by decide) rfl ?_
  refine g_lv [2, 3, 4, 5, 6, 7, 8, 9, 10, 11, 12, 13, 14, 15, 1, 0] rfl ?_
  exact ll_L_take_21 C hr hz hρ  w _ _ _ _ _ h
noncomputable def f_L_take  (w : Nat) (a : AS) (x14 : Int32) (x15 : Int32)  : Option (AS × Int32) := (if x14 = (0 : Int32) then (b_L_take_16  w a x14 x15 6) else (b_L_take_16  w a x14 x15 7))
set_option maxHeartbeats 4000000 in
set_option maxRecDepth 100000 in
theorem lb_L_take_0 {p : Program} {l : Launch} {e : Env} {s : State} {m : MethodId} {args : Array Value} {below : List Frame} {meth : Method} {c : Code} {D : va_G} {E : Nat → ClassId} {sz : Nat} {M : Nat → Nat → Nat → Int32} {a0 : AS} {ρ : YR} {w : Nat} {r0 : AS × Int32} (C : cx p s m args meth c D E (Aof (mx M a0, ρ) [] s.heap.size) cL_take 24 "TradeLineLaw") (hr : meth.sig.returnType = none) (hz : s.heap.size = sz) (hρ : rsh ρ) {a : AS} {x14 : Int32} {x15 : Int32}    (h : f_L_take  w a x14 x15  = some r0) : G p l e ({ frames := 5, cells := 0, slots := 0, locals := 152 } : Room) s m args below meth c D E (Aof (mx M a0, ρ) [] s.heap.size) 24 (MQ below (cQ D E sz (mx M a0, ρ) [] (pV (fun u => u = ((mx M r0.1, ρ), [])))) args s 0 0 (Aof (mx M a0, ρ) [] s.heap.size)) (mx M a, ρ) [] 0 0 0 [(0, .ref (ρ.2.2.2 (40 + 1) 0)), (1, .ref (ρ.2.2.2 (40 + 2) 0)), (2, .ref (ρ.2.2.2 (40 + 3) 0)), (3, .ref (ρ.2.2.2 (40 + 4) 0)), (4, .ref (ρ.2.2.2 (40 + 5) 0)), (5, .ref (ρ.2.2.2 (40 + 6) 0)), (6, .ref (ρ.2.2.2 (40 + 7) 0)), (7, .ref (ρ.2.2.2 (40 + 8) 0)), (8, .ref (ρ.2.2.2 (40 + 9) 0)), (9, .ref (ρ.2.2.2 (40 + 10) 0)), (10, .ref (ρ.2.2.2 (40 + 11) 0)), (11, .ref (ρ.2.2.2 (40 + 12) 0)), (12, .ref (ρ.2.2.2 (40 + 13) 0)), (13, .ref (ρ.2.2.2 (40 + 14) 0)), (14, .int x14), (15, .int x15)] [] := by
  unfold f_L_take at h
  refine g_iload C dL_take_0 15 rfl ?_
  refine g_istore (lv' := [(16, .int x15), (0, .ref (ρ.2.2.2 (40 + 1) 0)), (1, .ref (ρ.2.2.2 (40 + 2) 0)), (2, .ref (ρ.2.2.2 (40 + 3) 0)), (3, .ref (ρ.2.2.2 (40 + 4) 0)), (4, .ref (ρ.2.2.2 (40 + 5) 0)), (5, .ref (ρ.2.2.2 (40 + 6) 0)), (6, .ref (ρ.2.2.2 (40 + 7) 0)), (7, .ref (ρ.2.2.2 (40 + 8) 0)), (8, .ref (ρ.2.2.2 (40 + 9) 0)), (9, .ref (ρ.2.2.2 (40 + 10) 0)), (10, .ref (ρ.2.2.2 (40 + 11) 0)), (11, .ref (ρ.2.2.2 (40 + 12) 0)), (12, .ref (ρ.2.2.2 (40 + 13) 0)), (13, .ref (ρ.2.2.2 (40 + 14) 0)), (14, .int x14), (15, .int x15)]) C dL_take_2 (by decide) rfl ?_
  refine g_iload C dL_take_4 15 rfl ?_
  refine g_if_ne (tgt := 14) C dL_take_6 (by decide) (fun c6 => ?_) (fun c6 => ?_)
  · replace h := (if_neg c6).symm.trans h
    refine g_aload C dL_take_14 7 rfl ?_
    refine g_lv [1, 2, 3, 4, 5, 8, 9, 10, 11, 12, 13, 14, 15, 0] rfl ?_
    exact lb_L_take_16 C hr hz hρ  h
  · replace h := (if_pos c6).symm.trans h
    refine g_aload C dL_take_9 6 rfl ?_
    refine g_goto (tgt := 16) C dL_take_11 (by decide) ?_
    refine g_lv [1, 2, 3, 4, 5, 8, 9, 10, 11, 12, 13, 14, 15, 0] rfl ?_
    exact lb_L_take_16 C hr hz hρ  h
theorem k_L_take (l : Launch) (M : Nat → Nat → Nat → Int32) (ρ : YR) (hρ : rsh ρ) (w : Nat) (a : AS) (x14 : Int32) (x15 : Int32) (r0 : AS × Int32) (h : f_L_take w a x14 x15 = some r0) : ∀ D E sz, Met l yL_take gwL_take ({ frames := 5, cells := 0, slots := 0, locals := 152 } : Room) (cP D E sz (mx M a, ρ) [] [.ref (ρ.2.2.2 (40 + 1) 0), .ref (ρ.2.2.2 (40 + 2) 0), .ref (ρ.2.2.2 (40 + 3) 0), .ref (ρ.2.2.2 (40 + 4) 0), .ref (ρ.2.2.2 (40 + 5) 0), .ref (ρ.2.2.2 (40 + 6) 0), .ref (ρ.2.2.2 (40 + 7) 0), .ref (ρ.2.2.2 (40 + 8) 0), .ref (ρ.2.2.2 (40 + 9) 0), .ref (ρ.2.2.2 (40 + 10) 0), .ref (ρ.2.2.2 (40 + 11) 0), .ref (ρ.2.2.2 (40 + 12) 0), .ref (ρ.2.2.2 (40 + 13) 0), .ref (ρ.2.2.2 (40 + 14) 0), .int x14, .int x15]) (cQ D E sz (mx M a, ρ) [] (pV (fun u => u = ((mx M r0.1, ρ), [])))) (0) (0) (Aof (mx M a, ρ) [] sz) := by
  intro D E sz
  refine g_of (cc := cL_take) (maxL := 24) (ret := none) (own := "TradeLineLaw") (by decide) rfl rfl (Nat.le_of_ble_eq_true rfl) ?_
  intro p e s m args below meth c C hr hin hz ha hwr
  refine g_lv [0, 1, 2, 3, 4, 5, 6, 7, 8, 9, 10, 11, 12, 13, 14, 15] rfl ?_
  exact lb_L_take_0 C hr hz hρ h
noncomputable def b_L_one_307  (w : Nat) (a : AS) (x14 : Int32)  : Option (AS × Int32) := bif ixB ((6 : Int32) + x14) 22 then bif ixB ((8 : Int32) + x14) 22 then yl (up2 a 1 ((8 : Int32) + x14).toNatClampNeg (a 1 ((6 : Int32) + x14).toNatClampNeg)) (fun a23 => bif ixB (0 : Int32) 22 then bif ixB ((10 : Int32) + x14) 22 then yl (up2 a23 1 ((10 : Int32) + x14).toNatClampNeg (a23 1 (0 : Int32).toNatClampNeg)) (fun a26 => (f_L_send w a26 x14 (3 : Int32) (a26 1 ((6 : Int32) + x14).toNatClampNeg) (0 : Int32) (0 : Int32) (0 : Int32)).bind (fun v27 => some (v27.1, (0 : Int32)))) else none else none) else none else none
set_option maxHeartbeats 4000000 in
set_option maxRecDepth 100000 in
theorem lb_L_one_307 {p : Program} {l : Launch} {e : Env} {s : State} {m : MethodId} {args : Array Value} {below : List Frame} {meth : Method} {c : Code} {D : va_G} {E : Nat → ClassId} {sz : Nat} {M : Nat → Nat → Nat → Int32} {a0 : AS} {ρ : YR} {w : Nat} {r0 : AS × Int32} (C : cx p s m args meth c D E (Aof (mx M a0, ρ) [] s.heap.size) cL_one 22 "TradeLineLaw") (hr : meth.sig.returnType = none) (hz : s.heap.size = sz) (hρ : rsh ρ) {a : AS} {x14 : Int32}    (h : b_L_one_307  w a x14  = some r0) : G p l e ({ frames := 6, cells := 0, slots := 0, locals := 195 } : Room) s m args below meth c D E (Aof (mx M a0, ρ) [] s.heap.size) 22 (MQ below (cQ D E sz (mx M a0, ρ) [] (pV (fun u => u = ((mx M r0.1, ρ), [])))) args s 0 0 (Aof (mx M a0, ρ) [] s.heap.size)) (mx M a, ρ) [] 0 0 307 [(0, .ref (ρ.2.2.2 (40 + 1) 0)), (1, .ref (ρ.2.2.2 (40 + 2) 0)), (2, .ref (ρ.2.2.2 (40 + 3) 0)), (3, .ref (ρ.2.2.2 (40 + 4) 0)), (4, .ref (ρ.2.2.2 (40 + 5) 0)), (14, .int x14)] [] := by
  unfold b_L_one_307 at h
  refine g_aload_n C dL_one_307 rfl 0 rfl ?_
  refine g_bipush (v := (8 : Int32)) C dL_one_308 (by decide) ?_
  refine g_iload C dL_one_310 5 rfl ?_
  refine g_iadd C dL_one_312 ?_
  refine g_aload_n C dL_one_313 rfl 0 rfl ?_
  refine g_bipush (v := (6 : Int32)) C dL_one_314 (by decide) ?_
  refine g_iload C dL_one_316 5 rfl ?_
  refine g_iadd C dL_one_318 ?_
  obtain ⟨g21, h⟩ := of_guard h
  refine q_iald C hρ (j := 1) (N := 22) (by decide) rfl g21 dL_one_319 ?_
  obtain ⟨g22, h⟩ := of_guard h
  refine q_iast C hρ (j := 1) (N := 22) (by decide) rfl g22 dL_one_320 (fun a23 ea23 => ?_)
  replace h := yl_of h ea23
  refine g_aload_n C dL_one_321 rfl 0 rfl ?_
  refine g_bipush (v := (10 : Int32)) C dL_one_322 (by decide) ?_
  refine g_iload C dL_one_324 5 rfl ?_
  refine g_iadd C dL_one_326 ?_
  refine g_aload_n C dL_one_327 rfl 0 rfl ?_
  refine g_iconst (v := (0 : Int32)) C dL_one_328 (by decide) ?_
  obtain ⟨g24, h⟩ := of_guard h
  refine q_iald C hρ (j := 1) (N := 22) (by decide) rfl g24 dL_one_329 ?_
  obtain ⟨g25, h⟩ := of_guard h
  refine q_iast C hρ (j := 1) (N := 22) (by decide) rfl g25 dL_one_330 (fun a26 ea26 => ?_)
  replace h := yl_of h ea26
  refine g_aload_n C dL_one_331 rfl 0 rfl ?_
  refine g_aload_n C dL_one_332 rfl 1 rfl ?_
  refine g_aload_n C dL_one_333 rfl 2 rfl ?_
  refine g_aload_n C dL_one_334 rfl 3 rfl ?_
  refine g_aload C dL_one_335 4 rfl ?_
  refine g_iload C dL_one_337 5 rfl ?_
  refine g_iconst (v := (3 : Int32)) C dL_one_339 (by decide) ?_
  refine g_aload_n C dL_one_340 rfl 0 rfl ?_
  refine g_bipush (v := (6 : Int32)) C dL_one_341 (by decide) ?_
  refine g_iload C dL_one_343 5 rfl ?_
  refine g_iadd C dL_one_345 ?_
  refine q_iald C hρ (j := 1) (N := 22) (by decide) rfl g21 dL_one_346 ?_
  refine g_iconst (v := (0 : Int32)) C dL_one_347 (by decide) ?_
  refine g_iconst (v := (0 : Int32)) C dL_one_348 (by decide) ?_
  refine g_iconst (v := (0 : Int32)) C dL_one_349 (by decide) ?_
  obtain ⟨v27, hv27, h⟩ := bind_of h
  refine g_cSv (n := 11) (exc := []) (exr := []) C [_, _, _, _, _, _, _, _, _, _, _] _ rfl rfl [] [] rfl rfl rfl rfl (fun _ h => absurd h (by simp)) (fun _ h => absurd h (by simp)) (fun _ h => absurd h (by simp)) (fun sz => k_L_send l M ρ hρ w _ _ _ _ _ _ _ _ hv27 D E sz) rfl gw_458 gw_0 gw_456 gw_457 ⟨by decide +kernel, by decide +kernel, by decide +kernel⟩ ⟨rfl, rfl⟩ ⟨Nat.le_of_ble_eq_true rfl, Nat.le_of_ble_eq_true rfl⟩ (Nat.le_of_ble_eq_true rfl) dL_one_350 ⟨by decide, by decide⟩ (fun u hp hx => ?_)
  obtain rfl := hp
  try dsimp only [List.append_nil]
  obtain rfl := Option.some.inj h
  exact g_vret C hr hz ⟨rfl, rfl, fun _ => rfl, fun _ => rfl⟩ rfl (fun j x h => by simp at h) dL_one_353
noncomputable def b_L_one_273  (w : Nat) (a : AS) (x14 : Int32) (s0 : Int32) (s1 : Int32) (s2 : Nat) : Option (AS × Int32) := bif inB s2 64 then bif ixB s1 64 then yl (up2 a s2 s1.toNatClampNeg s0) (fun a18 => bif ixB ((8 : Int32) + x14) 22 then bif ixB ((6 : Int32) + x14) 22 then (if (a18 1 ((8 : Int32) + x14).toNatClampNeg) = (a18 1 ((6 : Int32) + x14).toNatClampNeg) then (bif ixB (0 : Int32) 22 then bif ixB ((10 : Int32) + x14) 22 then (if (5 : Int32) ≤ ((a18 1 (0 : Int32).toNatClampNeg) - (a18 1 ((10 : Int32) + x14).toNatClampNeg)) then (b_L_one_307  w a18 x14) else (some (a18, (0 : Int32)))) else none else none) else (b_L_one_307  w a18 x14)) else none else none) else none else none
set_option maxHeartbeats 4000000 in
set_option maxRecDepth 100000 in
theorem lb_L_one_273 {p : Program} {l : Launch} {e : Env} {s : State} {m : MethodId} {args : Array Value} {below : List Frame} {meth : Method} {c : Code} {D : va_G} {E : Nat → ClassId} {sz : Nat} {M : Nat → Nat → Nat → Int32} {a0 : AS} {ρ : YR} {w : Nat} {r0 : AS × Int32} (C : cx p s m args meth c D E (Aof (mx M a0, ρ) [] s.heap.size) cL_one 22 "TradeLineLaw") (hr : meth.sig.returnType = none) (hz : s.heap.size = sz) (hρ : rsh ρ) {a : AS} {x14 : Int32} {s0 : Int32} {s1 : Int32} {s2 : Nat}   (h : b_L_one_273  w a x14 s0 s1 s2 = some r0) : G p l e ({ frames := 6, cells := 0, slots := 0, locals := 195 } : Room) s m args below meth c D E (Aof (mx M a0, ρ) [] s.heap.size) 22 (MQ below (cQ D E sz (mx M a0, ρ) [] (pV (fun u => u = ((mx M r0.1, ρ), [])))) args s 0 0 (Aof (mx M a0, ρ) [] s.heap.size)) (mx M a, ρ) [] 0 0 273 [(0, .ref (ρ.2.2.2 (40 + 1) 0)), (1, .ref (ρ.2.2.2 (40 + 2) 0)), (2, .ref (ρ.2.2.2 (40 + 3) 0)), (3, .ref (ρ.2.2.2 (40 + 4) 0)), (4, .ref (ρ.2.2.2 (40 + 5) 0)), (14, .int x14)] [.int s0, .int s1, .ref (ρ.2.2.2 (40 + s2) 0)] := by
  unfold b_L_one_273 at h
  obtain ⟨g16, h⟩ := of_guard h
  obtain ⟨g17, h⟩ := of_guard h
  refine q_iast C hρ (j := s2) (N := 64) g16 rfl g17 dL_one_273 (fun a18 ea18 => ?_)
  replace h := yl_of h ea18
  refine g_aload_n C dL_one_274 rfl 0 rfl ?_
  refine g_bipush (v := (8 : Int32)) C dL_one_275 (by decide) ?_
  refine g_iload C dL_one_277 5 rfl ?_
  refine g_iadd C dL_one_279 ?_
  obtain ⟨g19, h⟩ := of_guard h
  refine q_iald C hρ (j := 1) (N := 22) (by decide) rfl g19 dL_one_280 ?_
  refine g_aload_n C dL_one_281 rfl 0 rfl ?_
  refine g_bipush (v := (6 : Int32)) C dL_one_282 (by decide) ?_
  refine g_iload C dL_one_284 5 rfl ?_
  refine g_iadd C dL_one_286 ?_
  obtain ⟨g20, h⟩ := of_guard h
  refine q_iald C hρ (j := 1) (N := 22) (by decide) rfl g20 dL_one_287 ?_
  refine g_icmp_ne (tgt := 307) C dL_one_288 (by decide) (fun c288 => ?_) (fun c288 => ?_)
  · replace h := (if_neg c288).symm.trans h
    refine g_lv [0, 1, 2, 3, 4, 5] rfl ?_
    exact lb_L_one_307 C hr hz hρ  h
  · replace h := (if_pos c288).symm.trans h
    refine g_aload_n C dL_one_291 rfl 0 rfl ?_
    refine g_iconst (v := (0 : Int32)) C dL_one_292 (by decide) ?_
    obtain ⟨g28, h⟩ := of_guard h
    refine q_iald C hρ (j := 1) (N := 22) (by decide) rfl g28 dL_one_293 ?_
    refine g_aload_n C dL_one_294 rfl 0 rfl ?_
    refine g_bipush (v := (10 : Int32)) C dL_one_295 (by decide) ?_
    refine g_iload C dL_one_297 5 rfl ?_
    refine g_iadd C dL_one_299 ?_
    obtain ⟨g29, h⟩ := of_guard h
    refine q_iald C hρ (j := 1) (N := 22) (by decide) rfl g29 dL_one_300 ?_
    refine g_isub C dL_one_301 ?_
    refine g_iconst (v := (5 : Int32)) C dL_one_302 (by decide) ?_
    refine g_icmp_ge (tgt := 307) C dL_one_303 (by decide) (fun c303 => ?_) (fun c303 => ?_)
    · replace h := (if_pos c303).symm.trans h
      refine g_lv [0, 1, 2, 3, 4, 5] rfl ?_
      exact lb_L_one_307 C hr hz hρ  h
    · replace h := (if_neg c303).symm.trans h
      obtain rfl := Option.some.inj h
      exact g_vret C hr hz ⟨rfl, rfl, fun _ => rfl, fun _ => rfl⟩ rfl (fun j x h => by simp at h) dL_one_306
noncomputable def b_L_one_258  (w : Nat) (a : AS) (x14 : Int32) (x17 : Int32) (x18 : Int32) (s0 : Nat) : Option (AS × Int32) := (if x18 ≤ (0 : Int32) then (b_L_one_273  w a x14 (1 : Int32) x17 s0) else (b_L_one_273  w a x14 ((1 : Int32) + x18) x17 s0))
set_option maxHeartbeats 4000000 in
set_option maxRecDepth 100000 in
theorem lb_L_one_258 {p : Program} {l : Launch} {e : Env} {s : State} {m : MethodId} {args : Array Value} {below : List Frame} {meth : Method} {c : Code} {D : va_G} {E : Nat → ClassId} {sz : Nat} {M : Nat → Nat → Nat → Int32} {a0 : AS} {ρ : YR} {w : Nat} {r0 : AS × Int32} (C : cx p s m args meth c D E (Aof (mx M a0, ρ) [] s.heap.size) cL_one 22 "TradeLineLaw") (hr : meth.sig.returnType = none) (hz : s.heap.size = sz) (hρ : rsh ρ) {a : AS} {x14 : Int32} {x17 : Int32} {x18 : Int32} {s0 : Nat}   (h : b_L_one_258  w a x14 x17 x18 s0 = some r0) : G p l e ({ frames := 6, cells := 0, slots := 0, locals := 195 } : Room) s m args below meth c D E (Aof (mx M a0, ρ) [] s.heap.size) 22 (MQ below (cQ D E sz (mx M a0, ρ) [] (pV (fun u => u = ((mx M r0.1, ρ), [])))) args s 0 0 (Aof (mx M a0, ρ) [] s.heap.size)) (mx M a, ρ) [] 0 0 258 [(0, .ref (ρ.2.2.2 (40 + 1) 0)), (1, .ref (ρ.2.2.2 (40 + 2) 0)), (2, .ref (ρ.2.2.2 (40 + 3) 0)), (3, .ref (ρ.2.2.2 (40 + 4) 0)), (4, .ref (ρ.2.2.2 (40 + 5) 0)), (14, .int x14), (17, .int x17), (18, .int x18)] [.ref (ρ.2.2.2 (40 + s0) 0)] := by
  unfold b_L_one_258 at h
  refine g_iload C dL_one_258 6 rfl ?_
  refine g_iload C dL_one_260 7 rfl ?_
  refine g_if_le (tgt := 272) C dL_one_262 (by decide) (fun c262 => ?_) (fun c262 => ?_)
  · replace h := (if_pos c262).symm.trans h
    refine g_iconst (v := (1 : Int32)) C dL_one_272 (by decide) ?_
    refine g_lv [0, 1, 2, 3, 4, 5] rfl ?_
    exact lb_L_one_273 C hr hz hρ  h
  · replace h := (if_neg c262).symm.trans h
    refine g_iconst (v := (1 : Int32)) C dL_one_265 (by decide) ?_
    refine g_iload C dL_one_266 7 rfl ?_
    refine g_iadd C dL_one_268 ?_
    refine g_goto (tgt := 273) C dL_one_269 (by decide) ?_
    refine g_lv [0, 1, 2, 3, 4, 5] rfl ?_
    exact lb_L_one_273 C hr hz hρ  h
noncomputable def b_L_one_233  (w : Nat) (a : AS) (x14 : Int32) (x17 : Int32) (x18 : Int32)  : Option (AS × Int32) := bif ixB ((6 : Int32) + x14) 22 then (if (a 1 ((6 : Int32) + x14).toNatClampNeg) < x17 then ((if x14 = (0 : Int32) then (b_L_one_258  w a x14 x17 x18 6) else (b_L_one_258  w a x14 x17 x18 7))) else (some (a, (0 : Int32)))) else none
set_option maxHeartbeats 4000000 in
set_option maxRecDepth 100000 in
theorem lb_L_one_233 {p : Program} {l : Launch} {e : Env} {s : State} {m : MethodId} {args : Array Value} {below : List Frame} {meth : Method} {c : Code} {D : va_G} {E : Nat → ClassId} {sz : Nat} {M : Nat → Nat → Nat → Int32} {a0 : AS} {ρ : YR} {w : Nat} {r0 : AS × Int32} (C : cx p s m args meth c D E (Aof (mx M a0, ρ) [] s.heap.size) cL_one 22 "TradeLineLaw") (hr : meth.sig.returnType = none) (hz : s.heap.size = sz) (hρ : rsh ρ) {a : AS} {x14 : Int32} {x17 : Int32} {x18 : Int32}    (h : b_L_one_233  w a x14 x17 x18  = some r0) : G p l e ({ frames := 6, cells := 0, slots := 0, locals := 195 } : Room) s m args below meth c D E (Aof (mx M a0, ρ) [] s.heap.size) 22 (MQ below (cQ D E sz (mx M a0, ρ) [] (pV (fun u => u = ((mx M r0.1, ρ), [])))) args s 0 0 (Aof (mx M a0, ρ) [] s.heap.size)) (mx M a, ρ) [] 0 0 233 [(0, .ref (ρ.2.2.2 (40 + 1) 0)), (1, .ref (ρ.2.2.2 (40 + 2) 0)), (2, .ref (ρ.2.2.2 (40 + 3) 0)), (3, .ref (ρ.2.2.2 (40 + 4) 0)), (4, .ref (ρ.2.2.2 (40 + 5) 0)), (5, .ref (ρ.2.2.2 (40 + 6) 0)), (6, .ref (ρ.2.2.2 (40 + 7) 0)), (14, .int x14), (17, .int x17), (18, .int x18)] [] := by
  unfold b_L_one_233 at h
  refine g_iload C dL_one_233 8 rfl ?_
  refine g_aload_n C dL_one_235 rfl 0 rfl ?_
  refine g_bipush (v := (6 : Int32)) C dL_one_236 (by decide) ?_
  refine g_iload C dL_one_238 7 rfl ?_
  refine g_iadd C dL_one_240 ?_
  obtain ⟨g15, h⟩ := of_guard h
  refine q_iald C hρ (j := 1) (N := 22) (by decide) rfl g15 dL_one_241 ?_
  refine g_icmp_gt (tgt := 246) C dL_one_242 (by decide) (fun c242 => ?_) (fun c242 => ?_)
  · replace h := (if_pos c242).symm.trans h
    refine g_iload C dL_one_246 7 rfl ?_
    refine g_if_ne (tgt := 256) C dL_one_248 (by decide) (fun c248 => ?_) (fun c248 => ?_)
    · replace h := (if_neg c248).symm.trans h
      refine g_aload C dL_one_256 6 rfl ?_
      refine g_lv [0, 1, 2, 3, 4, 7, 8, 9] rfl ?_
      exact lb_L_one_258 C hr hz hρ  h
    · replace h := (if_pos c248).symm.trans h
      refine g_aload C dL_one_251 5 rfl ?_
      refine g_goto (tgt := 258) C dL_one_253 (by decide) ?_
      refine g_lv [0, 1, 2, 3, 4, 7, 8, 9] rfl ?_
      exact lb_L_one_258 C hr hz hρ  h
  · replace h := (if_neg c242).symm.trans h
    obtain rfl := Option.some.inj h
    exact g_vret C hr hz ⟨rfl, rfl, fun _ => rfl, fun _ => rfl⟩ rfl (fun j x h => by simp at h) dL_one_245
noncomputable def b_L_one_190  (w : Nat) (a : AS) (x14 : Int32) (x17 : Int32) (x18 : Int32)  : Option (AS × Int32) := bif ixB ((6 : Int32) + x14) 22 then (if x17 = (a 1 ((6 : Int32) + x14).toNatClampNeg) then ((f_L_take w a x14 x18).bind (fun v30 => b_L_one_233  w v30.1 x14 x17 x18)) else (b_L_one_233  w a x14 x17 x18)) else none
set_option maxHeartbeats 4000000 in
set_option maxRecDepth 100000 in
theorem lb_L_one_190 {p : Program} {l : Launch} {e : Env} {s : State} {m : MethodId} {args : Array Value} {below : List Frame} {meth : Method} {c : Code} {D : va_G} {E : Nat → ClassId} {sz : Nat} {M : Nat → Nat → Nat → Int32} {a0 : AS} {ρ : YR} {w : Nat} {r0 : AS × Int32} (C : cx p s m args meth c D E (Aof (mx M a0, ρ) [] s.heap.size) cL_one 22 "TradeLineLaw") (hr : meth.sig.returnType = none) (hz : s.heap.size = sz) (hρ : rsh ρ) {a : AS} {x14 : Int32} {x17 : Int32} {x18 : Int32}    (h : b_L_one_190  w a x14 x17 x18  = some r0) : G p l e ({ frames := 6, cells := 0, slots := 0, locals := 195 } : Room) s m args below meth c D E (Aof (mx M a0, ρ) [] s.heap.size) 22 (MQ below (cQ D E sz (mx M a0, ρ) [] (pV (fun u => u = ((mx M r0.1, ρ), [])))) args s 0 0 (Aof (mx M a0, ρ) [] s.heap.size)) (mx M a, ρ) [] 0 0 190 [(0, .ref (ρ.2.2.2 (40 + 1) 0)), (1, .ref (ρ.2.2.2 (40 + 2) 0)), (2, .ref (ρ.2.2.2 (40 + 3) 0)), (3, .ref (ρ.2.2.2 (40 + 4) 0)), (4, .ref (ρ.2.2.2 (40 + 5) 0)), (5, .ref (ρ.2.2.2 (40 + 6) 0)), (6, .ref (ρ.2.2.2 (40 + 7) 0)), (7, .ref (ρ.2.2.2 (40 + 8) 0)), (8, .ref (ρ.2.2.2 (40 + 9) 0)), (9, .ref (ρ.2.2.2 (40 + 10) 0)), (10, .ref (ρ.2.2.2 (40 + 11) 0)), (11, .ref (ρ.2.2.2 (40 + 12) 0)), (12, .ref (ρ.2.2.2 (40 + 13) 0)), (13, .ref (ρ.2.2.2 (40 + 14) 0)), (14, .int x14), (17, .int x17), (18, .int x18)] [] := by
  unfold b_L_one_190 at h
  refine g_iload C dL_one_190 15 rfl ?_
  refine g_aload_n C dL_one_192 rfl 0 rfl ?_
  refine g_bipush (v := (6 : Int32)) C dL_one_193 (by decide) ?_
  refine g_iload C dL_one_195 14 rfl ?_
  refine g_iadd C dL_one_197 ?_
  obtain ⟨g14, h⟩ := of_guard h
  refine q_iald C hρ (j := 1) (N := 22) (by decide) rfl g14 dL_one_198 ?_
  refine g_icmp_ne (tgt := 233) C dL_one_199 (by decide) (fun c199 => ?_) (fun c199 => ?_)
  · replace h := (if_neg c199).symm.trans h
    refine g_lv [0, 1, 2, 3, 4, 5, 6, 14, 15, 16] rfl ?_
    exact lb_L_one_233 C hr hz hρ  h
  · replace h := (if_pos c199).symm.trans h
    refine g_aload_n C dL_one_202 rfl 0 rfl ?_
    refine g_aload_n C dL_one_203 rfl 1 rfl ?_
    refine g_aload_n C dL_one_204 rfl 2 rfl ?_
    refine g_aload_n C dL_one_205 rfl 3 rfl ?_
    refine g_aload C dL_one_206 4 rfl ?_
    refine g_aload C dL_one_208 5 rfl ?_
    refine g_aload C dL_one_210 6 rfl ?_
    refine g_aload C dL_one_212 7 rfl ?_
    refine g_aload C dL_one_214 8 rfl ?_
    refine g_aload C dL_one_216 9 rfl ?_
    refine g_aload C dL_one_218 10 rfl ?_
    refine g_aload C dL_one_220 11 rfl ?_
    refine g_aload C dL_one_222 12 rfl ?_
    refine g_aload C dL_one_224 13 rfl ?_
    refine g_iload C dL_one_226 14 rfl ?_
    refine g_iload C dL_one_228 16 rfl ?_
    obtain ⟨v30, hv30, h⟩ := bind_of h
    refine g_cSv (n := 16) (exc := []) (exr := []) C [_, _, _, _, _, _, _, _, _, _, _, _, _, _, _, _] _ rfl rfl [] [] rfl rfl rfl rfl (fun _ h => absurd h (by simp)) (fun _ h => absurd h (by simp)) (fun _ h => absurd h (by simp)) (fun sz => k_L_take l M ρ hρ w _ _ _ _ hv30 D E sz) rfl gw_1010 gw_0 gw_1008 gw_1009 ⟨by decide +kernel, by decide +kernel, by decide +kernel⟩ ⟨rfl, rfl⟩ ⟨Nat.le_of_ble_eq_true rfl, Nat.le_of_ble_eq_true rfl⟩ (Nat.le_of_ble_eq_true rfl) dL_one_230 ⟨by decide, by decide⟩ (fun u hp hx => ?_)
    obtain rfl := hp
    try dsimp only [List.append_nil]
    refine g_lv [0, 1, 2, 3, 4, 5, 6, 14, 15, 16] rfl ?_
    exact lb_L_one_233 C hr hz hρ  h
noncomputable def b_L_one_165  (w : Nat) (a : AS) (x14 : Int32) (x17 : Int32) (x18 : Int32) (x19 : Int64) (x21 : Int32)  : Option (AS × Int32) := (if x21 = (3 : Int32) then ((f_L_part w a x19 (5 : Int32)).bind (fun v31 => (f_L_answer w a x14 v31).bind (fun v32 => b_L_one_190  w v32.1 x14 x17 x18))) else (b_L_one_190  w a x14 x17 x18))
set_option maxHeartbeats 4000000 in
set_option maxRecDepth 100000 in
theorem lb_L_one_165 {p : Program} {l : Launch} {e : Env} {s : State} {m : MethodId} {args : Array Value} {below : List Frame} {meth : Method} {c : Code} {D : va_G} {E : Nat → ClassId} {sz : Nat} {M : Nat → Nat → Nat → Int32} {a0 : AS} {ρ : YR} {w : Nat} {r0 : AS × Int32} (C : cx p s m args meth c D E (Aof (mx M a0, ρ) [] s.heap.size) cL_one 22 "TradeLineLaw") (hr : meth.sig.returnType = none) (hz : s.heap.size = sz) (hρ : rsh ρ) {a : AS} {x14 : Int32} {x17 : Int32} {x18 : Int32} {x19 : Int64} {x21 : Int32}    (h : b_L_one_165  w a x14 x17 x18 x19 x21  = some r0) : G p l e ({ frames := 6, cells := 0, slots := 0, locals := 195 } : Room) s m args below meth c D E (Aof (mx M a0, ρ) [] s.heap.size) 22 (MQ below (cQ D E sz (mx M a0, ρ) [] (pV (fun u => u = ((mx M r0.1, ρ), [])))) args s 0 0 (Aof (mx M a0, ρ) [] s.heap.size)) (mx M a, ρ) [] 0 0 165 [(0, .ref (ρ.2.2.2 (40 + 1) 0)), (1, .ref (ρ.2.2.2 (40 + 2) 0)), (2, .ref (ρ.2.2.2 (40 + 3) 0)), (3, .ref (ρ.2.2.2 (40 + 4) 0)), (4, .ref (ρ.2.2.2 (40 + 5) 0)), (5, .ref (ρ.2.2.2 (40 + 6) 0)), (6, .ref (ρ.2.2.2 (40 + 7) 0)), (7, .ref (ρ.2.2.2 (40 + 8) 0)), (8, .ref (ρ.2.2.2 (40 + 9) 0)), (9, .ref (ρ.2.2.2 (40 + 10) 0)), (10, .ref (ρ.2.2.2 (40 + 11) 0)), (11, .ref (ρ.2.2.2 (40 + 12) 0)), (12, .ref (ρ.2.2.2 (40 + 13) 0)), (13, .ref (ρ.2.2.2 (40 + 14) 0)), (14, .int x14), (17, .int x17), (18, .int x18), (19, .long x19), (21, .int x21)] [] := by
  unfold b_L_one_165 at h
  refine g_iload C dL_one_165 18 rfl ?_
  refine g_iconst (v := (3 : Int32)) C dL_one_167 (by decide) ?_
  refine g_icmp_ne (tgt := 190) C dL_one_168 (by decide) (fun c168 => ?_) (fun c168 => ?_)
  · replace h := (if_neg c168).symm.trans h
    refine g_lv [0, 1, 2, 3, 4, 5, 6, 7, 8, 9, 10, 11, 12, 13, 14, 15, 16] rfl ?_
    exact lb_L_one_190 C hr hz hρ  h
  · replace h := (if_pos c168).symm.trans h
    refine g_aload_n C dL_one_171 rfl 0 rfl ?_
    refine g_aload_n C dL_one_172 rfl 1 rfl ?_
    refine g_aload_n C dL_one_173 rfl 2 rfl ?_
    refine g_aload_n C dL_one_174 rfl 3 rfl ?_
    refine g_aload C dL_one_175 4 rfl ?_
    refine g_aload C dL_one_177 11 rfl ?_
    refine g_iload C dL_one_179 14 rfl ?_
    refine g_lload C dL_one_181 17 rfl ?_
    refine g_iconst (v := (5 : Int32)) C dL_one_183 (by decide) ?_
    obtain ⟨v31, hv31, h⟩ := bind_of h
    refine g_cSi (n := 2) (exc := []) (exr := []) C [_, _] _ rfl rfl [] [] rfl rfl rfl rfl (fun _ h => absurd h (by simp)) (fun _ h => absurd h (by simp)) (fun _ h => absurd h (by simp)) (fun sz => k_L_part l M ρ hρ w _ _ _ _ hv31 D E sz) rfl gw_1002 gw_0 gw_1000 gw_1001 ⟨by decide +kernel, by decide +kernel, by decide +kernel⟩ ⟨rfl, rfl⟩ ⟨Nat.le_of_ble_eq_true rfl, Nat.le_of_ble_eq_true rfl⟩ (Nat.le_of_ble_eq_true rfl) dL_one_184 ⟨by decide, by decide⟩ (fun r u hp hx => ?_)
    obtain ⟨er, rfl⟩ := hp
    rw [er]
    try dsimp only [List.append_nil]
    obtain ⟨v32, hv32, h⟩ := bind_of h
    refine g_cSv (n := 8) (exc := []) (exr := []) C [_, _, _, _, _, _, _, _] _ rfl rfl [] [] rfl rfl rfl rfl (fun _ h => absurd h (by simp)) (fun _ h => absurd h (by simp)) (fun _ h => absurd h (by simp)) (fun sz => k_L_answer l M ρ hρ w _ _ _ _ hv32 D E sz) rfl gw_1006 gw_0 gw_1004 gw_1005 ⟨by decide +kernel, by decide +kernel, by decide +kernel⟩ ⟨rfl, rfl⟩ ⟨Nat.le_of_ble_eq_true rfl, Nat.le_of_ble_eq_true rfl⟩ (Nat.le_of_ble_eq_true rfl) dL_one_187 ⟨by decide, by decide⟩ (fun u hp hx => ?_)
    obtain rfl := hp
    try dsimp only [List.append_nil]
    refine g_lv [0, 1, 2, 3, 4, 5, 6, 7, 8, 9, 10, 11, 12, 13, 14, 15, 16] rfl ?_
    exact lb_L_one_190 C hr hz hρ  h
noncomputable def b_L_one_143  (w : Nat) (a : AS) (x14 : Int32) (x17 : Int32) (x18 : Int32) (x19 : Int64) (x21 : Int32)  : Option (AS × Int32) := bif ixB (0 : Int32) 22 then bif ixB ((14 : Int32) + x14) 22 then yl (up2 a 1 ((14 : Int32) + x14).toNatClampNeg (a 1 (0 : Int32).toNatClampNeg)) (fun a13 => (if x21 = (0 : Int32) then (bif ixB ((2 : Int32) + x14) 22 then yl (up2 a13 1 ((2 : Int32) + x14).toNatClampNeg (1 : Int32)) (fun a34 => b_L_one_165  w a34 x14 x17 x18 x19 x21) else none) else (b_L_one_165  w a13 x14 x17 x18 x19 x21))) else none else none
set_option maxHeartbeats 4000000 in
set_option maxRecDepth 100000 in
theorem lb_L_one_143 {p : Program} {l : Launch} {e : Env} {s : State} {m : MethodId} {args : Array Value} {below : List Frame} {meth : Method} {c : Code} {D : va_G} {E : Nat → ClassId} {sz : Nat} {M : Nat → Nat → Nat → Int32} {a0 : AS} {ρ : YR} {w : Nat} {r0 : AS × Int32} (C : cx p s m args meth c D E (Aof (mx M a0, ρ) [] s.heap.size) cL_one 22 "TradeLineLaw") (hr : meth.sig.returnType = none) (hz : s.heap.size = sz) (hρ : rsh ρ) {a : AS} {x14 : Int32} {x17 : Int32} {x18 : Int32} {x19 : Int64} {x21 : Int32}    (h : b_L_one_143  w a x14 x17 x18 x19 x21  = some r0) : G p l e ({ frames := 6, cells := 0, slots := 0, locals := 195 } : Room) s m args below meth c D E (Aof (mx M a0, ρ) [] s.heap.size) 22 (MQ below (cQ D E sz (mx M a0, ρ) [] (pV (fun u => u = ((mx M r0.1, ρ), [])))) args s 0 0 (Aof (mx M a0, ρ) [] s.heap.size)) (mx M a, ρ) [] 0 0 143 [(0, .ref (ρ.2.2.2 (40 + 1) 0)), (1, .ref (ρ.2.2.2 (40 + 2) 0)), (2, .ref (ρ.2.2.2 (40 + 3) 0)), (3, .ref (ρ.2.2.2 (40 + 4) 0)), (4, .ref (ρ.2.2.2 (40 + 5) 0)), (5, .ref (ρ.2.2.2 (40 + 6) 0)), (6, .ref (ρ.2.2.2 (40 + 7) 0)), (7, .ref (ρ.2.2.2 (40 + 8) 0)), (8, .ref (ρ.2.2.2 (40 + 9) 0)), (9, .ref (ρ.2.2.2 (40 + 10) 0)), (10, .ref (ρ.2.2.2 (40 + 11) 0)), (11, .ref (ρ.2.2.2 (40 + 12) 0)), (12, .ref (ρ.2.2.2 (40 + 13) 0)), (13, .ref (ρ.2.2.2 (40 + 14) 0)), (14, .int x14), (17, .int x17), (18, .int x18), (19, .long x19), (21, .int x21)] [] := by
  unfold b_L_one_143 at h
  refine g_aload_n C dL_one_143 rfl 0 rfl ?_
  refine g_bipush (v := (14 : Int32)) C dL_one_144 (by decide) ?_
  refine g_iload C dL_one_146 14 rfl ?_
  refine g_iadd C dL_one_148 ?_
  refine g_aload_n C dL_one_149 rfl 0 rfl ?_
  refine g_iconst (v := (0 : Int32)) C dL_one_150 (by decide) ?_
  obtain ⟨g11, h⟩ := of_guard h
  refine q_iald C hρ (j := 1) (N := 22) (by decide) rfl g11 dL_one_151 ?_
  obtain ⟨g12, h⟩ := of_guard h
  refine q_iast C hρ (j := 1) (N := 22) (by decide) rfl g12 dL_one_152 (fun a13 ea13 => ?_)
  replace h := yl_of h ea13
  refine g_iload C dL_one_153 18 rfl ?_
  refine g_if_ne (tgt := 165) C dL_one_155 (by decide) (fun c155 => ?_) (fun c155 => ?_)
  · replace h := (if_neg c155).symm.trans h
    refine g_lv [0, 1, 2, 3, 4, 5, 6, 7, 8, 9, 10, 11, 12, 13, 14, 15, 16, 17, 18] rfl ?_
    exact lb_L_one_165 C hr hz hρ  h
  · replace h := (if_pos c155).symm.trans h
    refine g_aload_n C dL_one_158 rfl 0 rfl ?_
    refine g_iconst (v := (2 : Int32)) C dL_one_159 (by decide) ?_
    refine g_iload C dL_one_160 14 rfl ?_
    refine g_iadd C dL_one_162 ?_
    refine g_iconst (v := (1 : Int32)) C dL_one_163 (by decide) ?_
    obtain ⟨g33, h⟩ := of_guard h
    refine q_iast C hρ (j := 1) (N := 22) (by decide) rfl g33 dL_one_164 (fun a34 ea34 => ?_)
    replace h := yl_of h ea34
    refine g_lv [0, 1, 2, 3, 4, 5, 6, 7, 8, 9, 10, 11, 12, 13, 14, 15, 16, 17, 18] rfl ?_
    exact lb_L_one_165 C hr hz hρ  h
noncomputable def b_L_one_117  (w : Nat) (a : AS) (x14 : Int32) (x16 : Int32) (x17 : Int32) (x18 : Int32) (x19 : Int64) (s0 : Int32) : Option (AS × Int32) := (if (x16 >>> ((13 : Int32) &&& 31)) = (1 : Int32) then (some (a, (0 : Int32))) else (bif ixB ((2 : Int32) + x14) 22 then (if (a 1 ((2 : Int32) + x14).toNatClampNeg) = (0 : Int32) then ((if s0 = (0 : Int32) then (b_L_one_143  w a x14 x17 x18 x19 s0) else (some (a, (0 : Int32))))) else (b_L_one_143  w a x14 x17 x18 x19 s0)) else none))
set_option maxHeartbeats 4000000 in
set_option maxRecDepth 100000 in
theorem lb_L_one_117 {p : Program} {l : Launch} {e : Env} {s : State} {m : MethodId} {args : Array Value} {below : List Frame} {meth : Method} {c : Code} {D : va_G} {E : Nat → ClassId} {sz : Nat} {M : Nat → Nat → Nat → Int32} {a0 : AS} {ρ : YR} {w : Nat} {r0 : AS × Int32} (C : cx p s m args meth c D E (Aof (mx M a0, ρ) [] s.heap.size) cL_one 22 "TradeLineLaw") (hr : meth.sig.returnType = none) (hz : s.heap.size = sz) (hρ : rsh ρ) {a : AS} {x14 : Int32} {x16 : Int32} {x17 : Int32} {x18 : Int32} {x19 : Int64} {s0 : Int32}   (h : b_L_one_117  w a x14 x16 x17 x18 x19 s0 = some r0) : G p l e ({ frames := 6, cells := 0, slots := 0, locals := 195 } : Room) s m args below meth c D E (Aof (mx M a0, ρ) [] s.heap.size) 22 (MQ below (cQ D E sz (mx M a0, ρ) [] (pV (fun u => u = ((mx M r0.1, ρ), [])))) args s 0 0 (Aof (mx M a0, ρ) [] s.heap.size)) (mx M a, ρ) [] 0 0 117 [(0, .ref (ρ.2.2.2 (40 + 1) 0)), (1, .ref (ρ.2.2.2 (40 + 2) 0)), (2, .ref (ρ.2.2.2 (40 + 3) 0)), (3, .ref (ρ.2.2.2 (40 + 4) 0)), (4, .ref (ρ.2.2.2 (40 + 5) 0)), (5, .ref (ρ.2.2.2 (40 + 6) 0)), (6, .ref (ρ.2.2.2 (40 + 7) 0)), (7, .ref (ρ.2.2.2 (40 + 8) 0)), (8, .ref (ρ.2.2.2 (40 + 9) 0)), (9, .ref (ρ.2.2.2 (40 + 10) 0)), (10, .ref (ρ.2.2.2 (40 + 11) 0)), (11, .ref (ρ.2.2.2 (40 + 12) 0)), (12, .ref (ρ.2.2.2 (40 + 13) 0)), (13, .ref (ρ.2.2.2 (40 + 14) 0)), (14, .int x14), (16, .int x16), (17, .int x17), (18, .int x18), (19, .long x19)] [.int s0] := by
  unfold b_L_one_117 at h
  refine g_istore (lv' := [(21, .int s0), (0, .ref (ρ.2.2.2 (40 + 1) 0)), (1, .ref (ρ.2.2.2 (40 + 2) 0)), (2, .ref (ρ.2.2.2 (40 + 3) 0)), (3, .ref (ρ.2.2.2 (40 + 4) 0)), (4, .ref (ρ.2.2.2 (40 + 5) 0)), (5, .ref (ρ.2.2.2 (40 + 6) 0)), (6, .ref (ρ.2.2.2 (40 + 7) 0)), (7, .ref (ρ.2.2.2 (40 + 8) 0)), (8, .ref (ρ.2.2.2 (40 + 9) 0)), (9, .ref (ρ.2.2.2 (40 + 10) 0)), (10, .ref (ρ.2.2.2 (40 + 11) 0)), (11, .ref (ρ.2.2.2 (40 + 12) 0)), (12, .ref (ρ.2.2.2 (40 + 13) 0)), (13, .ref (ρ.2.2.2 (40 + 14) 0)), (14, .int x14), (16, .int x16), (17, .int x17), (18, .int x18), (19, .long x19)]) C dL_one_117 (by decide) rfl ?_
  refine g_iload C dL_one_119 16 rfl ?_
  refine g_bipush (v := (13 : Int32)) C dL_one_121 (by decide) ?_
  refine g_ishr C dL_one_123 ?_
  refine g_iconst (v := (1 : Int32)) C dL_one_124 (by decide) ?_
  refine g_icmp_eq (tgt := 142) C dL_one_125 (by decide) (fun c125 => ?_) (fun c125 => ?_)
  · replace h := (if_pos c125).symm.trans h
    obtain rfl := Option.some.inj h
    exact g_vret C hr hz ⟨rfl, rfl, fun _ => rfl, fun _ => rfl⟩ rfl (fun j x h => by simp at h) dL_one_142
  · replace h := (if_neg c125).symm.trans h
    refine g_aload_n C dL_one_128 rfl 1 rfl ?_
    refine g_iconst (v := (2 : Int32)) C dL_one_129 (by decide) ?_
    refine g_iload C dL_one_130 15 rfl ?_
    refine g_iadd C dL_one_132 ?_
    obtain ⟨g10, h⟩ := of_guard h
    refine q_iald C hρ (j := 1) (N := 22) (by decide) rfl g10 dL_one_133 ?_
    refine g_if_ne (tgt := 143) C dL_one_134 (by decide) (fun c134 => ?_) (fun c134 => ?_)
    · replace h := (if_neg c134).symm.trans h
      refine g_lv [1, 2, 3, 4, 5, 6, 7, 8, 9, 10, 11, 12, 13, 14, 15, 17, 18, 19, 0] rfl ?_
      exact lb_L_one_143 C hr hz hρ  h
    · replace h := (if_pos c134).symm.trans h
      refine g_iload C dL_one_137 0 rfl ?_
      refine g_if_eq (tgt := 143) C dL_one_139 (by decide) (fun c139 => ?_) (fun c139 => ?_)
      · replace h := (if_pos c139).symm.trans h
        refine g_lv [1, 2, 3, 4, 5, 6, 7, 8, 9, 10, 11, 12, 13, 14, 15, 17, 18, 19, 0] rfl ?_
        exact lb_L_one_143 C hr hz hρ  h
      · replace h := (if_neg c139).symm.trans h
        obtain rfl := Option.some.inj h
        exact g_vret C hr hz ⟨rfl, rfl, fun _ => rfl, fun _ => rfl⟩ rfl (fun j x h => by simp at h) dL_one_142
noncomputable def b_L_one_96  (w : Nat) (a : AS) (x14 : Int32) (x16 : Int32) (x17 : Int32) (x18 : Int32) (s0 : Nat) : Option (AS × Int32) := bif lnB s0 64 then bif ixB x17 64 then yl ((lgA a s0 x17.toNatClampNeg)) (fun t9 => (if x18 ≤ (0 : Int32) then (b_L_one_117  w a x14 x16 x17 x18 t9 (Int64.toInt32 (t9 &&& (15 : Int64)))) else (b_L_one_117  w a x14 x16 x17 x18 t9 (4 : Int32)))) else none else none
set_option maxHeartbeats 4000000 in
set_option maxRecDepth 100000 in
theorem lb_L_one_96 {p : Program} {l : Launch} {e : Env} {s : State} {m : MethodId} {args : Array Value} {below : List Frame} {meth : Method} {c : Code} {D : va_G} {E : Nat → ClassId} {sz : Nat} {M : Nat → Nat → Nat → Int32} {a0 : AS} {ρ : YR} {w : Nat} {r0 : AS × Int32} (C : cx p s m args meth c D E (Aof (mx M a0, ρ) [] s.heap.size) cL_one 22 "TradeLineLaw") (hr : meth.sig.returnType = none) (hz : s.heap.size = sz) (hρ : rsh ρ) {a : AS} {x14 : Int32} {x16 : Int32} {x17 : Int32} {x18 : Int32} {s0 : Nat}   (h : b_L_one_96  w a x14 x16 x17 x18 s0 = some r0) : G p l e ({ frames := 6, cells := 0, slots := 0, locals := 195 } : Room) s m args below meth c D E (Aof (mx M a0, ρ) [] s.heap.size) 22 (MQ below (cQ D E sz (mx M a0, ρ) [] (pV (fun u => u = ((mx M r0.1, ρ), [])))) args s 0 0 (Aof (mx M a0, ρ) [] s.heap.size)) (mx M a, ρ) [] 0 0 96 [(0, .ref (ρ.2.2.2 (40 + 1) 0)), (1, .ref (ρ.2.2.2 (40 + 2) 0)), (2, .ref (ρ.2.2.2 (40 + 3) 0)), (3, .ref (ρ.2.2.2 (40 + 4) 0)), (4, .ref (ρ.2.2.2 (40 + 5) 0)), (5, .ref (ρ.2.2.2 (40 + 6) 0)), (6, .ref (ρ.2.2.2 (40 + 7) 0)), (7, .ref (ρ.2.2.2 (40 + 8) 0)), (8, .ref (ρ.2.2.2 (40 + 9) 0)), (9, .ref (ρ.2.2.2 (40 + 10) 0)), (10, .ref (ρ.2.2.2 (40 + 11) 0)), (11, .ref (ρ.2.2.2 (40 + 12) 0)), (12, .ref (ρ.2.2.2 (40 + 13) 0)), (13, .ref (ρ.2.2.2 (40 + 14) 0)), (14, .int x14), (16, .int x16), (17, .int x17), (18, .int x18)] [.ref (ρ.2.2.2 (40 + s0) 0)] := by
  unfold b_L_one_96 at h
  refine g_iload C dL_one_96 16 rfl ?_
  obtain ⟨g7, h⟩ := of_guard h
  obtain ⟨g8, h⟩ := of_guard h
  refine q_lald C hρ (j := s0) (N := 64) g7 rfl g8 dL_one_98 ?_
  refine q_topl (fun t9 et9 => ?_)
  replace h := yl_of h et9
  refine g_lstore (lv' := [(19, .long t9), (0, .ref (ρ.2.2.2 (40 + 1) 0)), (1, .ref (ρ.2.2.2 (40 + 2) 0)), (2, .ref (ρ.2.2.2 (40 + 3) 0)), (3, .ref (ρ.2.2.2 (40 + 4) 0)), (4, .ref (ρ.2.2.2 (40 + 5) 0)), (5, .ref (ρ.2.2.2 (40 + 6) 0)), (6, .ref (ρ.2.2.2 (40 + 7) 0)), (7, .ref (ρ.2.2.2 (40 + 8) 0)), (8, .ref (ρ.2.2.2 (40 + 9) 0)), (9, .ref (ρ.2.2.2 (40 + 10) 0)), (10, .ref (ρ.2.2.2 (40 + 11) 0)), (11, .ref (ρ.2.2.2 (40 + 12) 0)), (12, .ref (ρ.2.2.2 (40 + 13) 0)), (13, .ref (ρ.2.2.2 (40 + 14) 0)), (14, .int x14), (16, .int x16), (17, .int x17), (18, .int x18)]) C dL_one_99 (by decide) rfl ?_
  refine g_iload C dL_one_101 18 rfl ?_
  refine g_if_le (tgt := 110) C dL_one_103 (by decide) (fun c103 => ?_) (fun c103 => ?_)
  · replace h := (if_pos c103).symm.trans h
    refine g_lload C dL_one_110 0 rfl ?_
    refine g_ldc2 (v := (15 : Int64)) C gw_999 dL_one_112 ?_
    refine g_land C dL_one_115 ?_
    refine g_l2i C dL_one_116 ?_
    refine g_lv [1, 2, 3, 4, 5, 6, 7, 8, 9, 10, 11, 12, 13, 14, 15, 16, 17, 18, 0] rfl ?_
    exact lb_L_one_117 C hr hz hρ  h
  · replace h := (if_neg c103).symm.trans h
    refine g_iconst (v := (4 : Int32)) C dL_one_106 (by decide) ?_
    refine g_goto (tgt := 117) C dL_one_107 (by decide) ?_
    refine g_lv [1, 2, 3, 4, 5, 6, 7, 8, 9, 10, 11, 12, 13, 14, 15, 16, 17, 18, 0] rfl ?_
    exact lb_L_one_117 C hr hz hρ  h
noncomputable def b_L_one_34 (k34 : AS → Int32 → Nat → Int32 → Int32 → Option (AS × Int32)) (w : Nat) (a : AS) (x14 : Int32) (x15 : Nat) (x16 : Int32) (x17 : Int32)  : Option (AS × Int32) := bif ixB ((16 : Int32) + x14) 22 then (if (a 1 ((16 : Int32) + x14).toNatClampNeg) ≤ x17 then (yl ((x16 &&& (63 : Int32))) (fun t5 => yl (((x16 >>> ((6 : Int32) &&& 31)) &&& (127 : Int32))) (fun t6 => (if x14 = (0 : Int32) then (b_L_one_96  w a x14 x16 t5 t6 5) else (b_L_one_96  w a x14 x16 t5 t6 4))))) else ((f_L_get w a x15 (x17 + (1 : Int32))).bind (fun v35 => (f_L_set w a x15 x17 v35).bind (fun v36 => yl (x17 + (1 : Int32)) (fun t37 => k34 v36.1 x14 x15 x16 t37))))) else none
set_option maxHeartbeats 4000000 in
set_option maxRecDepth 100000 in
theorem lb_L_one_34 {p : Program} {l : Launch} {e : Env} {s : State} {m : MethodId} {args : Array Value} {below : List Frame} {meth : Method} {c : Code} {D : va_G} {E : Nat → ClassId} {sz : Nat} {M : Nat → Nat → Nat → Int32} {a0 : AS} {ρ : YR} {w : Nat} {r0 : AS × Int32} (C : cx p s m args meth c D E (Aof (mx M a0, ρ) [] s.heap.size) cL_one 22 "TradeLineLaw") (hr : meth.sig.returnType = none) (hz : s.heap.size = sz) (hρ : rsh ρ) {a : AS} {x14 : Int32} {x15 : Nat} {x16 : Int32} {x17 : Int32}  {k34 : AS → Int32 → Nat → Int32 → Int32 → Option (AS × Int32)} (hk34 : ∀ (a1 : AS) (z14 : Int32) (z15 : Nat) (z16 : Int32) (z17 : Int32), k34 a1 z14 z15 z16 z17 = some r0 → G p l e ({ frames := 6, cells := 0, slots := 0, locals := 195 } : Room) s m args below meth c D E (Aof (mx M a0, ρ) [] s.heap.size) 22 (MQ below (cQ D E sz (mx M a0, ρ) [] (pV (fun u => u = ((mx M r0.1, ρ), [])))) args s 0 0 (Aof (mx M a0, ρ) [] s.heap.size)) (mx M a1, ρ) [] 0 0 34 [(0, .ref (ρ.2.2.2 (40 + 1) 0)), (1, .ref (ρ.2.2.2 (40 + 2) 0)), (2, .ref (ρ.2.2.2 (40 + 3) 0)), (3, .ref (ρ.2.2.2 (40 + 4) 0)), (4, .ref (ρ.2.2.2 (40 + 5) 0)), (5, .ref (ρ.2.2.2 (40 + 6) 0)), (6, .ref (ρ.2.2.2 (40 + 7) 0)), (7, .ref (ρ.2.2.2 (40 + 8) 0)), (8, .ref (ρ.2.2.2 (40 + 9) 0)), (9, .ref (ρ.2.2.2 (40 + 10) 0)), (10, .ref (ρ.2.2.2 (40 + 11) 0)), (11, .ref (ρ.2.2.2 (40 + 12) 0)), (12, .ref (ρ.2.2.2 (40 + 13) 0)), (13, .ref (ρ.2.2.2 (40 + 14) 0)), (14, .int z14), (15, .ref (ρ.2.2.2 (40 + z15) 0)), (16, .int z16), (17, .int z17)] []) (h : b_L_one_34 k34 w a x14 x15 x16 x17  = some r0) : G p l e ({ frames := 6, cells := 0, slots := 0, locals := 195 } : Room) s m args below meth c D E (Aof (mx M a0, ρ) [] s.heap.size) 22 (MQ below (cQ D E sz (mx M a0, ρ) [] (pV (fun u => u = ((mx M r0.1, ρ), [])))) args s 0 0 (Aof (mx M a0, ρ) [] s.heap.size)) (mx M a, ρ) [] 0 0 34 [(0, .ref (ρ.2.2.2 (40 + 1) 0)), (1, .ref (ρ.2.2.2 (40 + 2) 0)), (2, .ref (ρ.2.2.2 (40 + 3) 0)), (3, .ref (ρ.2.2.2 (40 + 4) 0)), (4, .ref (ρ.2.2.2 (40 + 5) 0)), (5, .ref (ρ.2.2.2 (40 + 6) 0)), (6, .ref (ρ.2.2.2 (40 + 7) 0)), (7, .ref (ρ.2.2.2 (40 + 8) 0)), (8, .ref (ρ.2.2.2 (40 + 9) 0)), (9, .ref (ρ.2.2.2 (40 + 10) 0)), (10, .ref (ρ.2.2.2 (40 + 11) 0)), (11, .ref (ρ.2.2.2 (40 + 12) 0)), (12, .ref (ρ.2.2.2 (40 + 13) 0)), (13, .ref (ρ.2.2.2 (40 + 14) 0)), (14, .int x14), (15, .ref (ρ.2.2.2 (40 + x15) 0)), (16, .int x16), (17, .int x17)] [] := by
  unfold b_L_one_34 at h
  refine g_iload C dL_one_34 17 rfl ?_
  refine g_aload_n C dL_one_36 rfl 0 rfl ?_
  refine g_bipush (v := (16 : Int32)) C dL_one_37 (by decide) ?_
  refine g_iload C dL_one_39 14 rfl ?_
  refine g_iadd C dL_one_41 ?_
  obtain ⟨g4, h⟩ := of_guard h
  refine q_iald C hρ (j := 1) (N := 22) (by decide) rfl g4 dL_one_42 ?_
  refine g_icmp_ge (tgt := 68) C dL_one_43 (by decide) (fun c43 => ?_) (fun c43 => ?_)
  · replace h := (if_pos c43).symm.trans h
    refine g_iload C dL_one_68 16 rfl ?_
    refine g_bipush (v := (63 : Int32)) C dL_one_70 (by decide) ?_
    refine g_iand C dL_one_72 ?_
    refine q_topi (fun t5 et5 => ?_)
    replace h := yl_of h et5
    refine g_istore (lv' := [(17, .int t5), (0, .ref (ρ.2.2.2 (40 + 1) 0)), (1, .ref (ρ.2.2.2 (40 + 2) 0)), (2, .ref (ρ.2.2.2 (40 + 3) 0)), (3, .ref (ρ.2.2.2 (40 + 4) 0)), (4, .ref (ρ.2.2.2 (40 + 5) 0)), (5, .ref (ρ.2.2.2 (40 + 6) 0)), (6, .ref (ρ.2.2.2 (40 + 7) 0)), (7, .ref (ρ.2.2.2 (40 + 8) 0)), (8, .ref (ρ.2.2.2 (40 + 9) 0)), (9, .ref (ρ.2.2.2 (40 + 10) 0)), (10, .ref (ρ.2.2.2 (40 + 11) 0)), (11, .ref (ρ.2.2.2 (40 + 12) 0)), (12, .ref (ρ.2.2.2 (40 + 13) 0)), (13, .ref (ρ.2.2.2 (40 + 14) 0)), (14, .int x14), (15, .ref (ρ.2.2.2 (40 + x15) 0)), (16, .int x16)]) C dL_one_73 (by decide) rfl ?_
    refine g_iload C dL_one_75 17 rfl ?_
    refine g_bipush (v := (6 : Int32)) C dL_one_77 (by decide) ?_
    refine g_ishr C dL_one_79 ?_
    refine g_bipush (v := (127 : Int32)) C dL_one_80 (by decide) ?_
    refine g_iand C dL_one_82 ?_
    refine q_topi (fun t6 et6 => ?_)
    replace h := yl_of h et6
    refine g_istore (lv' := [(18, .int t6), (17, .int t5), (0, .ref (ρ.2.2.2 (40 + 1) 0)), (1, .ref (ρ.2.2.2 (40 + 2) 0)), (2, .ref (ρ.2.2.2 (40 + 3) 0)), (3, .ref (ρ.2.2.2 (40 + 4) 0)), (4, .ref (ρ.2.2.2 (40 + 5) 0)), (5, .ref (ρ.2.2.2 (40 + 6) 0)), (6, .ref (ρ.2.2.2 (40 + 7) 0)), (7, .ref (ρ.2.2.2 (40 + 8) 0)), (8, .ref (ρ.2.2.2 (40 + 9) 0)), (9, .ref (ρ.2.2.2 (40 + 10) 0)), (10, .ref (ρ.2.2.2 (40 + 11) 0)), (11, .ref (ρ.2.2.2 (40 + 12) 0)), (12, .ref (ρ.2.2.2 (40 + 13) 0)), (13, .ref (ρ.2.2.2 (40 + 14) 0)), (14, .int x14), (15, .ref (ρ.2.2.2 (40 + x15) 0)), (16, .int x16)]) C dL_one_83 (by decide) rfl ?_
    refine g_iload C dL_one_85 16 rfl ?_
    refine g_if_ne (tgt := 95) C dL_one_87 (by decide) (fun c87 => ?_) (fun c87 => ?_)
    · replace h := (if_neg c87).symm.trans h
      refine g_aload_n C dL_one_95 rfl 5 rfl ?_
      refine g_lv [2, 3, 4, 5, 6, 7, 8, 9, 10, 11, 12, 13, 14, 15, 16, 18, 1, 0] rfl ?_
      exact lb_L_one_96 C hr hz hρ  h
    · replace h := (if_pos c87).symm.trans h
      refine g_aload C dL_one_90 6 rfl ?_
      refine g_goto (tgt := 96) C dL_one_92 (by decide) ?_
      refine g_lv [2, 3, 4, 5, 6, 7, 8, 9, 10, 11, 12, 13, 14, 15, 16, 18, 1, 0] rfl ?_
      exact lb_L_one_96 C hr hz hρ  h
  · replace h := (if_neg c43).symm.trans h
    refine g_aload C dL_one_46 15 rfl ?_
    refine g_iload C dL_one_48 17 rfl ?_
    refine g_aload C dL_one_50 15 rfl ?_
    refine g_iload C dL_one_52 17 rfl ?_
    refine g_iconst (v := (1 : Int32)) C dL_one_54 (by decide) ?_
    refine g_iadd C dL_one_55 ?_
    obtain ⟨v35, hv35, h⟩ := bind_of h
    refine g_cSi (n := 2) (exc := []) (exr := []) C [_, _] _ rfl rfl [] [] rfl rfl rfl rfl (fun _ h => absurd h (by simp)) (fun _ h => absurd h (by simp)) (fun _ h => absurd h (by simp)) (fun sz => k_L_get l M ρ hρ w _ _ _ _ hv35 D E sz) rfl gw_998 gw_0 gw_996 gw_997 ⟨by decide +kernel, by decide +kernel, by decide +kernel⟩ ⟨rfl, rfl⟩ ⟨Nat.le_of_ble_eq_true rfl, Nat.le_of_ble_eq_true rfl⟩ (Nat.le_of_ble_eq_true rfl) dL_one_56 ⟨by decide, by decide⟩ (fun r u hp hx => ?_)
    obtain ⟨er, rfl⟩ := hp
    rw [er]
    try dsimp only [List.append_nil]
    obtain ⟨v36, hv36, h⟩ := bind_of h
    refine g_cSv (n := 3) (exc := []) (exr := []) C [_, _, _] _ rfl rfl [] [] rfl rfl rfl rfl (fun _ h => absurd h (by simp)) (fun _ h => absurd h (by simp)) (fun _ h => absurd h (by simp)) (fun sz => k_L_set l M ρ hρ w _ _ _ _ _ hv36 D E sz) rfl gw_464 gw_0 gw_462 gw_463 ⟨by decide +kernel, by decide +kernel, by decide +kernel⟩ ⟨rfl, rfl⟩ ⟨Nat.le_of_ble_eq_true rfl, Nat.le_of_ble_eq_true rfl⟩ (Nat.le_of_ble_eq_true rfl) dL_one_59 ⟨by decide, by decide⟩ (fun u hp hx => ?_)
    obtain rfl := hp
    try dsimp only [List.append_nil]
    obtain ⟨t37, et37⟩ : ∃ y : Int32, x17 + (1 : Int32) = y := ⟨_, rfl⟩
    replace h := yl_of h et37
    refine g_iinc (v := t37) (lv' := [(17, .int t37), (0, .ref (ρ.2.2.2 (40 + 1) 0)), (1, .ref (ρ.2.2.2 (40 + 2) 0)), (2, .ref (ρ.2.2.2 (40 + 3) 0)), (3, .ref (ρ.2.2.2 (40 + 4) 0)), (4, .ref (ρ.2.2.2 (40 + 5) 0)), (5, .ref (ρ.2.2.2 (40 + 6) 0)), (6, .ref (ρ.2.2.2 (40 + 7) 0)), (7, .ref (ρ.2.2.2 (40 + 8) 0)), (8, .ref (ρ.2.2.2 (40 + 9) 0)), (9, .ref (ρ.2.2.2 (40 + 10) 0)), (10, .ref (ρ.2.2.2 (40 + 11) 0)), (11, .ref (ρ.2.2.2 (40 + 12) 0)), (12, .ref (ρ.2.2.2 (40 + 13) 0)), (13, .ref (ρ.2.2.2 (40 + 14) 0)), (14, .int x14), (15, .ref (ρ.2.2.2 (40 + x15) 0)), (16, .int x16)]) C dL_one_62 17 rfl (by rw [← et37]; rfl) (by decide) rfl ?_
    refine g_goto (tgt := 34) C dL_one_65 (by decide) ?_
    refine g_lv [1, 2, 3, 4, 5, 6, 7, 8, 9, 10, 11, 12, 13, 14, 15, 16, 17, 0] rfl ?_
    exact hk34 _ _ _ _ _ h
noncomputable def l_L_one_34  (w : Nat) : Nat → AS → Int32 → Nat → Int32 → Int32 → Option (AS × Int32)
  | 0 => fun _ _ _ _ _ => none
  | n + 1 => fun a x14 x15 x16 x17 => b_L_one_34  (l_L_one_34  w n) w a x14 x15 x16 x17
theorem ll_L_one_34 {p : Program} {l : Launch} {e : Env} {s : State} {m : MethodId} {args : Array Value} {below : List Frame} {meth : Method} {c : Code} {D : va_G} {E : Nat → ClassId} {sz : Nat} {M : Nat → Nat → Nat → Int32} {a0 : AS} {ρ : YR} {w : Nat} {r0 : AS × Int32} (C : cx p s m args meth c D E (Aof (mx M a0, ρ) [] s.heap.size) cL_one 22 "TradeLineLaw") (hr : meth.sig.returnType = none) (hz : s.heap.size = sz) (hρ : rsh ρ)   : ∀ (n : Nat) (a : AS) (x14 : Int32) (x15 : Nat) (x16 : Int32) (x17 : Int32), l_L_one_34  w n a x14 x15 x16 x17 = some r0 → G p l e ({ frames := 6, cells := 0, slots := 0, locals := 195 } : Room) s m args below meth c D E (Aof (mx M a0, ρ) [] s.heap.size) 22 (MQ below (cQ D E sz (mx M a0, ρ) [] (pV (fun u => u = ((mx M r0.1, ρ), [])))) args s 0 0 (Aof (mx M a0, ρ) [] s.heap.size)) (mx M a, ρ) [] 0 0 34 [(0, .ref (ρ.2.2.2 (40 + 1) 0)), (1, .ref (ρ.2.2.2 (40 + 2) 0)), (2, .ref (ρ.2.2.2 (40 + 3) 0)), (3, .ref (ρ.2.2.2 (40 + 4) 0)), (4, .ref (ρ.2.2.2 (40 + 5) 0)), (5, .ref (ρ.2.2.2 (40 + 6) 0)), (6, .ref (ρ.2.2.2 (40 + 7) 0)), (7, .ref (ρ.2.2.2 (40 + 8) 0)), (8, .ref (ρ.2.2.2 (40 + 9) 0)), (9, .ref (ρ.2.2.2 (40 + 10) 0)), (10, .ref (ρ.2.2.2 (40 + 11) 0)), (11, .ref (ρ.2.2.2 (40 + 12) 0)), (12, .ref (ρ.2.2.2 (40 + 13) 0)), (13, .ref (ρ.2.2.2 (40 + 14) 0)), (14, .int x14), (15, .ref (ρ.2.2.2 (40 + x15) 0)), (16, .int x16), (17, .int x17)] [] := by
  intro n
  induction n with
  | zero => exact fun a x14 x15 x16 x17 h => absurd (show (none : Option (AS × Int32)) = some r0 from h) (by simp)
  | succ n ih => exact fun a x14 x15 x16 x17 h => lb_L_one_34 (w := w) C hr hz hρ  ih h
noncomputable def b_L_one_10  (w : Nat) (a : AS) (x14 : Int32) (s0 : Nat) : Option (AS × Int32) := (f_L_get w a s0 (0 : Int32)).bind (fun v1 => bif ixB ((16 : Int32) + x14) 22 then yl (up2 a 1 ((16 : Int32) + x14).toNatClampNeg ((a 1 ((16 : Int32) + x14).toNatClampNeg) - (1 : Int32))) (fun a3 => l_L_one_34  w w a3 x14 s0 v1 (0 : Int32)) else none)
set_option maxHeartbeats 4000000 in
set_option maxRecDepth 100000 in
theorem lb_L_one_10 {p : Program} {l : Launch} {e : Env} {s : State} {m : MethodId} {args : Array Value} {below : List Frame} {meth : Method} {c : Code} {D : va_G} {E : Nat → ClassId} {sz : Nat} {M : Nat → Nat → Nat → Int32} {a0 : AS} {ρ : YR} {w : Nat} {r0 : AS × Int32} (C : cx p s m args meth c D E (Aof (mx M a0, ρ) [] s.heap.size) cL_one 22 "TradeLineLaw") (hr : meth.sig.returnType = none) (hz : s.heap.size = sz) (hρ : rsh ρ) {a : AS} {x14 : Int32} {s0 : Nat}   (h : b_L_one_10  w a x14 s0 = some r0) : G p l e ({ frames := 6, cells := 0, slots := 0, locals := 195 } : Room) s m args below meth c D E (Aof (mx M a0, ρ) [] s.heap.size) 22 (MQ below (cQ D E sz (mx M a0, ρ) [] (pV (fun u => u = ((mx M r0.1, ρ), [])))) args s 0 0 (Aof (mx M a0, ρ) [] s.heap.size)) (mx M a, ρ) [] 0 0 10 [(0, .ref (ρ.2.2.2 (40 + 1) 0)), (1, .ref (ρ.2.2.2 (40 + 2) 0)), (2, .ref (ρ.2.2.2 (40 + 3) 0)), (3, .ref (ρ.2.2.2 (40 + 4) 0)), (4, .ref (ρ.2.2.2 (40 + 5) 0)), (5, .ref (ρ.2.2.2 (40 + 6) 0)), (6, .ref (ρ.2.2.2 (40 + 7) 0)), (7, .ref (ρ.2.2.2 (40 + 8) 0)), (8, .ref (ρ.2.2.2 (40 + 9) 0)), (9, .ref (ρ.2.2.2 (40 + 10) 0)), (10, .ref (ρ.2.2.2 (40 + 11) 0)), (11, .ref (ρ.2.2.2 (40 + 12) 0)), (12, .ref (ρ.2.2.2 (40 + 13) 0)), (13, .ref (ρ.2.2.2 (40 + 14) 0)), (14, .int x14)] [.ref (ρ.2.2.2 (40 + s0) 0)] := by
  unfold b_L_one_10 at h
  refine g_astore (lv' := [(15, .ref (ρ.2.2.2 (40 + s0) 0)), (0, .ref (ρ.2.2.2 (40 + 1) 0)), (1, .ref (ρ.2.2.2 (40 + 2) 0)), (2, .ref (ρ.2.2.2 (40 + 3) 0)), (3, .ref (ρ.2.2.2 (40 + 4) 0)), (4, .ref (ρ.2.2.2 (40 + 5) 0)), (5, .ref (ρ.2.2.2 (40 + 6) 0)), (6, .ref (ρ.2.2.2 (40 + 7) 0)), (7, .ref (ρ.2.2.2 (40 + 8) 0)), (8, .ref (ρ.2.2.2 (40 + 9) 0)), (9, .ref (ρ.2.2.2 (40 + 10) 0)), (10, .ref (ρ.2.2.2 (40 + 11) 0)), (11, .ref (ρ.2.2.2 (40 + 12) 0)), (12, .ref (ρ.2.2.2 (40 + 13) 0)), (13, .ref (ρ.2.2.2 (40 + 14) 0)), (14, .int x14)]) C dL_one_10 (by decide) rfl ?_
  refine g_aload C dL_one_12 0 rfl ?_
  refine g_iconst (v := (0 : Int32)) C dL_one_14 (by decide) ?_
  obtain ⟨v1, hv1, h⟩ := bind_of h
  refine g_cSi (n := 2) (exc := []) (exr := []) C [_, _] _ rfl rfl [] [] rfl rfl rfl rfl (fun _ h => absurd h (by simp)) (fun _ h => absurd h (by simp)) (fun _ h => absurd h (by simp)) (fun sz => k_L_get l M ρ hρ w _ _ _ _ hv1 D E sz) rfl gw_998 gw_0 gw_996 gw_997 ⟨by decide +kernel, by decide +kernel, by decide +kernel⟩ ⟨rfl, rfl⟩ ⟨Nat.le_of_ble_eq_true rfl, Nat.le_of_ble_eq_true rfl⟩ (Nat.le_of_ble_eq_true rfl) dL_one_15 ⟨by decide, by decide⟩ (fun r u hp hx => ?_)
  obtain ⟨er, rfl⟩ := hp
  rw [er]
  try dsimp only [List.append_nil]
  refine g_istore (lv' := [(16, .int v1), (15, .ref (ρ.2.2.2 (40 + s0) 0)), (0, .ref (ρ.2.2.2 (40 + 1) 0)), (1, .ref (ρ.2.2.2 (40 + 2) 0)), (2, .ref (ρ.2.2.2 (40 + 3) 0)), (3, .ref (ρ.2.2.2 (40 + 4) 0)), (4, .ref (ρ.2.2.2 (40 + 5) 0)), (5, .ref (ρ.2.2.2 (40 + 6) 0)), (6, .ref (ρ.2.2.2 (40 + 7) 0)), (7, .ref (ρ.2.2.2 (40 + 8) 0)), (8, .ref (ρ.2.2.2 (40 + 9) 0)), (9, .ref (ρ.2.2.2 (40 + 10) 0)), (10, .ref (ρ.2.2.2 (40 + 11) 0)), (11, .ref (ρ.2.2.2 (40 + 12) 0)), (12, .ref (ρ.2.2.2 (40 + 13) 0)), (13, .ref (ρ.2.2.2 (40 + 14) 0)), (14, .int x14)]) C dL_one_18 (by decide) rfl ?_
  refine g_aload_n C dL_one_20 rfl 2 rfl ?_
  refine g_bipush (v := (16 : Int32)) C dL_one_21 (by decide) ?_
  refine g_iload C dL_one_23 16 rfl ?_
  refine g_iadd C dL_one_25 ?_
  refine g_dup2 C dL_one_26 rfl rfl ?_
  obtain ⟨g2, h⟩ := of_guard h
  refine q_iald C hρ (j := 1) (N := 22) (by decide) rfl g2 dL_one_27 ?_
  refine g_iconst (v := (1 : Int32)) C dL_one_28 (by decide) ?_
  refine g_isub C dL_one_29 ?_
  refine q_iast C hρ (j := 1) (N := 22) (by decide) rfl g2 dL_one_30 (fun a3 ea3 => ?_)
  replace h := yl_of h ea3
  refine g_iconst (v := (0 : Int32)) C dL_one_31 (by decide) ?_
  refine g_istore (lv' := [(17, .int (0 : Int32)), (16, .int v1), (15, .ref (ρ.2.2.2 (40 + s0) 0)), (0, .ref (ρ.2.2.2 (40 + 1) 0)), (1, .ref (ρ.2.2.2 (40 + 2) 0)), (2, .ref (ρ.2.2.2 (40 + 3) 0)), (3, .ref (ρ.2.2.2 (40 + 4) 0)), (4, .ref (ρ.2.2.2 (40 + 5) 0)), (5, .ref (ρ.2.2.2 (40 + 6) 0)), (6, .ref (ρ.2.2.2 (40 + 7) 0)), (7, .ref (ρ.2.2.2 (40 + 8) 0)), (8, .ref (ρ.2.2.2 (40 + 9) 0)), (9, .ref (ρ.2.2.2 (40 + 10) 0)), (10, .ref (ρ.2.2.2 (40 + 11) 0)), (11, .ref (ρ.2.2.2 (40 + 12) 0)), (12, .ref (ρ.2.2.2 (40 + 13) 0)), (13, .ref (ρ.2.2.2 (40 + 14) 0)), (14, .int x14)]) C dL_one_32 (by decide) rfl ?_
  refine g_lv [3, 4, 5, 6, 7, 8, 9, 10, 11, 12, 13, 14, 15, 16, 17, 2, 1, 0] rfl ?_
  exact ll_L_one_34 C hr hz hρ  w _ _ _ _ _ h
noncomputable def f_L_one  (w : Nat) (a : AS) (x14 : Int32)  : Option (AS × Int32) := (if x14 = (0 : Int32) then (b_L_one_10  w a x14 2) else (b_L_one_10  w a x14 3))
set_option maxHeartbeats 4000000 in
set_option maxRecDepth 100000 in
theorem lb_L_one_0 {p : Program} {l : Launch} {e : Env} {s : State} {m : MethodId} {args : Array Value} {below : List Frame} {meth : Method} {c : Code} {D : va_G} {E : Nat → ClassId} {sz : Nat} {M : Nat → Nat → Nat → Int32} {a0 : AS} {ρ : YR} {w : Nat} {r0 : AS × Int32} (C : cx p s m args meth c D E (Aof (mx M a0, ρ) [] s.heap.size) cL_one 22 "TradeLineLaw") (hr : meth.sig.returnType = none) (hz : s.heap.size = sz) (hρ : rsh ρ) {a : AS} {x14 : Int32}    (h : f_L_one  w a x14  = some r0) : G p l e ({ frames := 6, cells := 0, slots := 0, locals := 195 } : Room) s m args below meth c D E (Aof (mx M a0, ρ) [] s.heap.size) 22 (MQ below (cQ D E sz (mx M a0, ρ) [] (pV (fun u => u = ((mx M r0.1, ρ), [])))) args s 0 0 (Aof (mx M a0, ρ) [] s.heap.size)) (mx M a, ρ) [] 0 0 0 [(0, .ref (ρ.2.2.2 (40 + 1) 0)), (1, .ref (ρ.2.2.2 (40 + 2) 0)), (2, .ref (ρ.2.2.2 (40 + 3) 0)), (3, .ref (ρ.2.2.2 (40 + 4) 0)), (4, .ref (ρ.2.2.2 (40 + 5) 0)), (5, .ref (ρ.2.2.2 (40 + 6) 0)), (6, .ref (ρ.2.2.2 (40 + 7) 0)), (7, .ref (ρ.2.2.2 (40 + 8) 0)), (8, .ref (ρ.2.2.2 (40 + 9) 0)), (9, .ref (ρ.2.2.2 (40 + 10) 0)), (10, .ref (ρ.2.2.2 (40 + 11) 0)), (11, .ref (ρ.2.2.2 (40 + 12) 0)), (12, .ref (ρ.2.2.2 (40 + 13) 0)), (13, .ref (ρ.2.2.2 (40 + 14) 0)), (14, .int x14)] [] := by
  unfold f_L_one at h
  refine g_iload C dL_one_0 14 rfl ?_
  refine g_if_ne (tgt := 9) C dL_one_2 (by decide) (fun c2 => ?_) (fun c2 => ?_)
  · replace h := (if_neg c2).symm.trans h
    refine g_aload_n C dL_one_9 rfl 2 rfl ?_
    refine g_lv [0, 1, 2, 3, 4, 5, 6, 7, 8, 9, 10, 11, 12, 13, 14] rfl ?_
    exact lb_L_one_10 C hr hz hρ  h
  · replace h := (if_pos c2).symm.trans h
    refine g_aload_n C dL_one_5 rfl 1 rfl ?_
    refine g_goto (tgt := 10) C dL_one_6 (by decide) ?_
    refine g_lv [0, 1, 2, 3, 4, 5, 6, 7, 8, 9, 10, 11, 12, 13, 14] rfl ?_
    exact lb_L_one_10 C hr hz hρ  h
theorem k_L_one (l : Launch) (M : Nat → Nat → Nat → Int32) (ρ : YR) (hρ : rsh ρ) (w : Nat) (a : AS) (x14 : Int32) (r0 : AS × Int32) (h : f_L_one w a x14 = some r0) : ∀ D E sz, Met l yL_one gwL_one ({ frames := 6, cells := 0, slots := 0, locals := 195 } : Room) (cP D E sz (mx M a, ρ) [] [.ref (ρ.2.2.2 (40 + 1) 0), .ref (ρ.2.2.2 (40 + 2) 0), .ref (ρ.2.2.2 (40 + 3) 0), .ref (ρ.2.2.2 (40 + 4) 0), .ref (ρ.2.2.2 (40 + 5) 0), .ref (ρ.2.2.2 (40 + 6) 0), .ref (ρ.2.2.2 (40 + 7) 0), .ref (ρ.2.2.2 (40 + 8) 0), .ref (ρ.2.2.2 (40 + 9) 0), .ref (ρ.2.2.2 (40 + 10) 0), .ref (ρ.2.2.2 (40 + 11) 0), .ref (ρ.2.2.2 (40 + 12) 0), .ref (ρ.2.2.2 (40 + 13) 0), .ref (ρ.2.2.2 (40 + 14) 0), .int x14]) (cQ D E sz (mx M a, ρ) [] (pV (fun u => u = ((mx M r0.1, ρ), [])))) (0) (0) (Aof (mx M a, ρ) [] sz) := by
  intro D E sz
  refine g_of (cc := cL_one) (maxL := 22) (ret := none) (own := "TradeLineLaw") (by decide) rfl rfl (Nat.le_of_ble_eq_true rfl) ?_
  intro p e s m args below meth c C hr hin hz ha hwr
  refine g_lv [0, 1, 2, 3, 4, 5, 6, 7, 8, 9, 10, 11, 12, 13, 14] rfl ?_
  exact lb_L_one_0 C hr hz hρ h
