theorem rm_hf {c s mc ms : Nat} (h1 : c + mc ≤ 299000) (h2 : s + ms ≤ 3090000) : c + mc ≤ room_1.cells ∧ s + ms ≤ room_1.slots := ⟨Nat.le_trans h1 (Nat.le_of_ble_eq_true rfl), Nat.le_trans h2 (Nat.le_of_ble_eq_true rfl)⟩
section RowsX
variable {p : Program} {l : Launch} {e : Env} {R : Room} {s : State} {m : MethodId} {args : Array Value} {below : List Frame} {meth : Method} {c : Code} {D : va_G} {E : Nat → ClassId} {A : Nat → Prop} {cc : ByteArray} {nL : Nat} {own : String} {Q : State → Prop}
variable {σ : RS} {ex : va_W} {cells slots pc : Nat} {lv : List (Nat × Value)} {rest : List Value}
theorem g_ialdX (C : cx p s m args meth c D E A cc nL own) {b L : Nat} {xs : Nat → Int32} (hX : va_X b L xs s s.heap) (hbl : b < s.heap.size) (hbA : ¬ A b) {n : Int32} (hin : vp_in n L) (hd : decode cc pc = .ok (.iaload, 1)) (kk : G p l e R s m args below meth c D E A nL Q σ ex cells slots (pc + 1) lv (.int (xs n.toNatClampNeg) :: rest)) : G p l e R s m args below meth c D E A nL Q σ ex cells slots (pc) lv (.int n :: .ref b :: rest) := fun H locs ls hw hs hl =>
  va_sld C.1 C.2.1 hX hbl hbA hs hin hd (kk H locs ls hw hs hl)
theorem g_alenX (C : cx p s m args meth c D E A cc nL own) {b L : Nat} {xs : Nat → Int32} (hX : va_X b L xs s s.heap) (hbl : b < s.heap.size) (hbA : ¬ A b) {v : Int32} (hv : Int32.ofNat L = v) (hd : decode cc pc = .ok (.arraylength, 1)) (kk : G p l e R s m args below meth c D E A nL Q σ ex cells slots (pc + 1) lv (.int v :: rest)) : G p l e R s m args below meth c D E A nL Q σ ex cells slots (pc) lv (.ref b :: rest) := fun H locs ls hw hs hl => by
  subst hv
  exact va_slen C.1 C.2.1 hX hbl hbA hs hd (kk H locs ls hw hs hl)
end RowsX
theorem up3_90 (f : Nat → Nat → Nat → Int32) (v : Int32) : up3 f 90 0 0 v 90 0 0 = v := by rw [up3_s, up1_s]
noncomputable def s_connect (w : Nat) (μ : MP) (ν : NC) (a : AS) (x1 : Int32) : Option ((MP × NC) × AS) := (f_X8_connect w μ ν (nz x1)).bind fun r => (f_X9_connect w a (nz x1)).bind fun q => (f_X9_thrown w q.1).bind fun t => lwq false [(3, 1)] μ ν (r.1, r.2) q t
set_option maxHeartbeats 4000000 in
set_option maxRecDepth 100000 in
theorem w_connect {p : Program} {l : Launch} {e : Env} {s : State} {m : MethodId} {args : Array Value} {below : List Frame} {meth : Method} {c : Code} {D : va_G} {E : Nat → ClassId} {A : Nat → Prop} {Q : State → Prop} {B : Nat × (Nat → Nat)} {a30 a31 : Nat} {μ : MP} {ν : NC} {a : AS} {Ad : Nat → Nat → Nat} {w : Nat} {b L : Nat} {xs : Nat → Int32} {cells slots : Nat} (C : cx p s m args meth c D E A cL_law 7 "TradeLineLaw") (hEv : eV a30 a31 B A s s.heap) (hN : vN s) (hl : l.stackTraces = false) (hI : lwI ν) (h3 : Ad 30 0 = a30 ∧ Ad 31 0 = a31) (hX : va_X b L xs s s.heap) (hbl : b < s.heap.size) (hbA : ¬ A b) {i x1 : Int32} (q1 : vp_in (i + 1) L ∧ xs (i + 1).toNatClampNeg = x1) {S : (MP × NC) × AS} (h : s_connect w μ ν a x1 = some S) (hf : cells + (kc S.1.2 - kc ν) + 1 ≤ 299000 ∧ slots + (ks S.1.2 - ks ν) + 6 ≤ 3090000) (kk : ∀ A1, mn ν S.1.2 → kp ν Ad A1 → G p l e room_1 s m args below meth c D E A 7 Q (zS S.1.1 S.1.2 S.2 A1) [] (cells + (kc S.1.2 - kc ν) + 1) (slots + (ks S.1.2 - ks ν) + 6) 2215 [(0, .ref b), (1, .ref (A1 0 0)), (2, .ref (A1 40 0)), (3, .ref (A1 90 0)), (4, .int i)] []) : G p l e room_1 s m args below meth c D E A 7 Q (zS μ ν a Ad) [] (cells) (slots) 188 [(0, .ref b), (1, .ref (Ad 0 0)), (2, .ref (Ad 40 0)), (3, .ref (Ad 90 0)), (4, .int i)] [] := by
  unfold s_connect at h
  obtain ⟨r, hr, h⟩ := bind_of h
  obtain ⟨q, hq, h⟩ := bind_of h
  obtain ⟨t, ht, h⟩ := bind_of h
  rcases lwq_f h with ⟨e0, e1, rfl⟩ | ⟨ec, rfl⟩
  · replace e0 : r.1 = 0 := e0
    have hf1 : cells + (kc r.2.1.2 - kc ν) + 1 ≤ 299000 := hf.1
    have hf2 : slots + (ks r.2.1.2 - ks ν) + 6 ≤ 3090000 := hf.2
    refine g_aload_n C dL_law_188 rfl 1 rfl ?_
    refine g_aload_n C dL_law_189 rfl 0 rfl ?_
    refine g_iload C dL_law_190 4 rfl ?_
    refine g_iconst (v := 1) C dL_law_192 (by decide) ?_
    refine g_iadd C dL_law_193 ?_
    refine g_ialdX C hX hbl hbA q1.1 dL_law_194 ?_
    rw [q1.2]
    refine g_nz C dL_law_195 dL_law_198 dL_law_199 dL_law_202 ?_
    refine g_cSh (n := 2) (exr := []) C hEv hN h3 [_, _] _ rfl rfl [] rfl rfl (fun sz => r_L_connect l B μ ν a Ad w (nz x1) r.2 (thr0 hr e0) hI.1 hI.2.1 D E sz) rfl gh_connect gw_0 gw_260 gw_261 ⟨by decide +kernel, by decide +kernel, by decide +kernel⟩ ⟨rfl, rfl⟩ ⟨Nat.le_of_ble_eq_true rfl, Nat.le_of_ble_eq_true rfl⟩ (Nat.le_of_ble_eq_true rfl) dL_law_203 (rm_hf (by omega) (by omega)) (fun r8 u hp hx => ?_)
    obtain ⟨er8, A1, rfl, hkp⟩ := hp
    rw [er8]
    try dsimp only [List.nil_append]
    have hm : mn ν r.2.1.2 := m_X8_connect (thr0 hr e0)
    have hI1 := lwI_mn hI hm
    rw [show Ad 0 0 = A1 0 0 from (hkp.1 0 0 rfl hI.1).symm, show Ad 40 0 = A1 40 0 from (hkp.1 40 0 rfl hI.2.2.1).symm, show Ad 90 0 = A1 90 0 from (hkp.1 90 0 rfl hI.2.1.1).symm]
    refine g_istore (lv' := [(5, .int 0), (0, .ref b), (1, .ref (A1 0 0)), (2, .ref (A1 40 0)), (3, .ref (A1 90 0)), (4, .int i)]) C dL_law_206 (by decide) rfl ?_
    refine g_aload_n C dL_law_208 rfl 3 rfl ?_
    refine g_aload_n C dL_law_209 rfl 1 rfl ?_
    refine g_iload C dL_law_210 5 rfl ?_
    refine g_iconst (v := 1) C dL_law_212 (by decide) ?_
    refine g_iadd C dL_law_213 ?_
    refine g_ialdX C hX hbl hbA q1.1 dL_law_214 ?_
    rw [q1.2]
    refine g_nz C dL_law_215 dL_law_218 dL_law_219 dL_law_222 ?_
    refine g_cVv (n := 1) (exc := []) (exr := []) C [_] _ rfl rfl [] [] rfl rfl rfl rfl (fun _ _ h => absurd h (by simp)) (fun _ h => absurd h (by simp)) (fun _ h => absurd h (by simp)) (fun sz => zk_connect l r.2.1.1 r.2.1.2 a A1 hI1.2.2 w (nz x1) q hq D E sz) rfl gw_1472 gw_9 gw_1469 gw_1470 gw_1471 ⟨by decide +kernel, by decide +kernel, by decide +kernel⟩ ⟨rfl, rfl⟩ ⟨Nat.le_of_ble_eq_true rfl, Nat.le_of_ble_eq_true rfl⟩ (rcvT ⟨hI1.2.2.1, fun e => absurd e (by decide)⟩ rfl rfl rfl) (Nat.le_of_ble_eq_true rfl) dL_law_223 (rm_hf (by omega) (by omega)) (fun u hp hx => ?_)
    obtain rfl := hp
    try dsimp only [List.nil_append]
    refine g_aload_n C dL_law_226 rfl 3 rfl ?_
    refine g_cVi (n := 0) (exc := []) (exr := []) C [] _ rfl rfl [] [] rfl rfl rfl rfl (fun _ _ h => absurd h (by simp)) (fun _ h => absurd h (by simp)) (fun _ h => absurd h (by simp)) (fun sz => zk_thrown l r.2.1.1 r.2.1.2 q.1 A1 hI1.2.2 w  t ht D E sz) rfl gw_1468 gw_9 gw_1465 gw_1466 gw_1467 ⟨by decide +kernel, by decide +kernel, by decide +kernel⟩ ⟨rfl, rfl⟩ ⟨Nat.le_of_ble_eq_true rfl, Nat.le_of_ble_eq_true rfl⟩ (rcvT ⟨hI1.2.2.1, fun e => absurd e (by decide)⟩ rfl rfl rfl) (Nat.le_of_ble_eq_true rfl) dL_law_227 (rm_hf (by omega) (by omega)) (fun r9 u hp hx => ?_)
    obtain ⟨er9, rfl⟩ := hp
    rw [er9]
    try dsimp only [List.nil_append]
    refine g_iload C dL_law_230 0 rfl ?_
    refine g_icmp_eq (tgt := 237) C dL_law_232 (by decide) (fun c1 => ?_) (fun c1 => absurd e1 c1)
    refine g_goto (tgt := 2215) C dL_law_237 (by decide) ?_
    refine g_lv (lv' := [(0, .ref b), (1, .ref (A1 0 0)), (2, .ref (A1 40 0)), (3, .ref (A1 90 0)), (4, .int i)]) [1, 2, 3, 4, 5] rfl ?_
    refine g_widen (k := cells + (kc r.2.1.2 - kc ν) + 1) (n := slots + (ks r.2.1.2 - ks ν) + 6) (by omega) (by omega) ?_
    exact kk A1 hm hkp
  · rcases cd_cons ec with ⟨e0, e1⟩ | ec
    · have hf1 : cells + (kc ν - kc ν) + 1 ≤ 299000 := hf.1
      have hf2 : slots + (ks ν - ks ν) + 6 ≤ 3090000 := hf.2
      refine g_aload_n C dL_law_188 rfl 1 rfl ?_
      refine g_aload_n C dL_law_189 rfl 0 rfl ?_
      refine g_iload C dL_law_190 4 rfl ?_
      refine g_iconst (v := 1) C dL_law_192 (by decide) ?_
      refine g_iadd C dL_law_193 ?_
      refine g_ialdX C hX hbl hbA q1.1 dL_law_194 ?_
      rw [q1.2]
      refine g_nz C dL_law_195 dL_law_198 dL_law_199 dL_law_202 ?_
      refine g_cSh (n := 2) (exr := []) C hEv hN h3 [_, _] _ rfl rfl [] rfl rfl (fun sz => e3_L_connect l hl B μ ν a Ad w (nz x1) r.2 (thrS hr e0) hI.1 hI.2.1 D E sz) rfl gh_connect gw_0 gw_260 gw_261 ⟨by decide +kernel, by decide +kernel, by decide +kernel⟩ ⟨rfl, rfl⟩ ⟨Nat.le_of_ble_eq_true rfl, Nat.le_of_ble_eq_true rfl⟩ (Nat.le_of_ble_eq_true rfl) dL_law_203 (rm_hf (by omega) (by omega)) (fun r8 u hp hx => ?_)
      obtain ⟨er8, rfl⟩ := hp
      rw [er8]
      try dsimp only [List.nil_append]
      refine g_istore (lv' := [(5, .int 1), (0, .ref b), (1, .ref (Ad 0 0)), (2, .ref (Ad 40 0)), (3, .ref (Ad 90 0)), (4, .int i)]) C dL_law_206 (by decide) rfl ?_
      refine g_aload_n C dL_law_208 rfl 3 rfl ?_
      refine g_aload_n C dL_law_209 rfl 1 rfl ?_
      refine g_iload C dL_law_210 5 rfl ?_
      refine g_iconst (v := 1) C dL_law_212 (by decide) ?_
      refine g_iadd C dL_law_213 ?_
      refine g_ialdX C hX hbl hbA q1.1 dL_law_214 ?_
      rw [q1.2]
      refine g_nz C dL_law_215 dL_law_218 dL_law_219 dL_law_222 ?_
      refine g_cVv (n := 1) (exc := []) (exr := []) C [_] _ rfl rfl [] [] rfl rfl rfl rfl (fun _ _ h => absurd h (by simp)) (fun _ h => absurd h (by simp)) (fun _ h => absurd h (by simp)) (fun sz => zk_connect l μ ν a Ad hI.2.2 w (nz x1) q hq D E sz) rfl gw_1472 gw_9 gw_1469 gw_1470 gw_1471 ⟨by decide +kernel, by decide +kernel, by decide +kernel⟩ ⟨rfl, rfl⟩ ⟨Nat.le_of_ble_eq_true rfl, Nat.le_of_ble_eq_true rfl⟩ (rcvT ⟨hI.2.2.1, fun e => absurd e (by decide)⟩ rfl rfl rfl) (Nat.le_of_ble_eq_true rfl) dL_law_223 (rm_hf (by omega) (by omega)) (fun u hp hx => ?_)
      obtain rfl := hp
      try dsimp only [List.nil_append]
      refine g_aload_n C dL_law_226 rfl 3 rfl ?_
      refine g_cVi (n := 0) (exc := []) (exr := []) C [] _ rfl rfl [] [] rfl rfl rfl rfl (fun _ _ h => absurd h (by simp)) (fun _ h => absurd h (by simp)) (fun _ h => absurd h (by simp)) (fun sz => zk_thrown l μ ν q.1 Ad hI.2.2 w  t ht D E sz) rfl gw_1468 gw_9 gw_1465 gw_1466 gw_1467 ⟨by decide +kernel, by decide +kernel, by decide +kernel⟩ ⟨rfl, rfl⟩ ⟨Nat.le_of_ble_eq_true rfl, Nat.le_of_ble_eq_true rfl⟩ (rcvT ⟨hI.2.2.1, fun e => absurd e (by decide)⟩ rfl rfl rfl) (Nat.le_of_ble_eq_true rfl) dL_law_227 (rm_hf (by omega) (by omega)) (fun r9 u hp hx => ?_)
      obtain ⟨er9, rfl⟩ := hp
      rw [er9]
      try dsimp only [List.nil_append]
      refine g_iload C dL_law_230 0 rfl ?_
      refine g_icmp_eq (tgt := 237) C dL_law_232 (by decide) (fun c1 => ?_) (fun c1 => absurd e1 c1)
      refine g_goto (tgt := 2215) C dL_law_237 (by decide) ?_
      refine g_lv (lv' := [(0, .ref b), (1, .ref (Ad 0 0)), (2, .ref (Ad 40 0)), (3, .ref (Ad 90 0)), (4, .int i)]) [1, 2, 3, 4, 5] rfl ?_
      refine g_widen (k := cells + (kc ν - kc ν) + 1) (n := slots + (ks ν - ks ν) + 6) (by omega) (by omega) ?_
      exact kk Ad (mn_rfl _) (kp_rfl _ _)
    · exact cd_nil ec
noncomputable def s_cut (w : Nat) (μ : MP) (ν : NC) (a : AS) : Option ((MP × NC) × AS) := (f_X8_cut w μ ν ).bind fun r => (f_X9_cut w a ).bind fun q => (f_X9_thrown w q.1).bind fun t => lwq true [(3, 1)] μ ν (r.1, ((r.2.1, ν), r.2.2)) q t
set_option maxHeartbeats 4000000 in
set_option maxRecDepth 100000 in
theorem w_cut {p : Program} {l : Launch} {e : Env} {s : State} {m : MethodId} {args : Array Value} {below : List Frame} {meth : Method} {c : Code} {D : va_G} {E : Nat → ClassId} {A : Nat → Prop} {Q : State → Prop} {B : Nat × (Nat → Nat)} {a30 a31 : Nat} {μ : MP} {ν : NC} {a : AS} {Ad : Nat → Nat → Nat} {w : Nat} {b L : Nat} {xs : Nat → Int32} {cells slots : Nat} (C : cx p s m args meth c D E A cL_law 7 "TradeLineLaw") (hEv : eV a30 a31 B A s s.heap) (hN : vN s) (hl : l.stackTraces = false) (hI : lwI ν) (h3 : Ad 30 0 = a30 ∧ Ad 31 0 = a31) (hX : va_X b L xs s s.heap) (hbl : b < s.heap.size) (hbA : ¬ A b) {i : Int32} {S : (MP × NC) × AS} (h : s_cut w μ ν a = some S) (hf : cells + (kc S.1.2 - kc ν) + 1 ≤ 299000 ∧ slots + (ks S.1.2 - ks ν) + 6 ≤ 3090000) (kk : ∀ A1, mn ν S.1.2 → kp ν Ad A1 → G p l e room_1 s m args below meth c D E A 7 Q (zS S.1.1 S.1.2 S.2 A1) [] (cells + (kc S.1.2 - kc ν) + 1) (slots + (ks S.1.2 - ks ν) + 6) 2215 [(0, .ref b), (1, .ref (A1 0 0)), (2, .ref (A1 40 0)), (3, .ref (A1 90 0)), (4, .int i)] []) : G p l e room_1 s m args below meth c D E A 7 Q (zS μ ν a Ad) [] (cells) (slots) 240 [(0, .ref b), (1, .ref (Ad 0 0)), (2, .ref (Ad 40 0)), (3, .ref (Ad 90 0)), (4, .int i)] [] := by
  unfold s_cut at h
  obtain ⟨r, hr, h⟩ := bind_of h
  obtain ⟨q, hq, h⟩ := bind_of h
  obtain ⟨t, ht, h⟩ := bind_of h
  rcases lwq_t h with ⟨e0, e1, e2, rfl⟩ | ⟨ec, rfl⟩
  · replace e0 : r.1 = 0 := e0
    have hf1 : cells + (kc ν - kc ν) + 1 ≤ 299000 := hf.1
    have hf2 : slots + (ks ν - ks ν) + 6 ≤ 3090000 := hf.2
    refine g_aload_n C dL_law_240 rfl 1 rfl ?_
    refine g_aload_n C dL_law_241 rfl 3 rfl ?_
    refine g_cSh (n := 2) (exr := []) C hEv hN h3 [_, _] _ rfl rfl [] rfl rfl (fun sz => r_L_cut l B μ ν a Ad w  r.2 (thr0 hr e0) hI.1 hI.2.1 D E sz) rfl gh_cut gw_0 gw_469 gw_470 ⟨by decide +kernel, by decide +kernel, by decide +kernel⟩ ⟨rfl, rfl⟩ ⟨Nat.le_of_ble_eq_true rfl, Nat.le_of_ble_eq_true rfl⟩ (Nat.le_of_ble_eq_true rfl) dL_law_242 (rm_hf (by omega) (by omega)) (fun r8 u hp hx => ?_)
    obtain ⟨er8, rfl⟩ := hp
    rw [er8]
    try dsimp only [List.nil_append]
    refine g_istore (lv' := [(5, .int 0), (0, .ref b), (1, .ref (Ad 0 0)), (2, .ref (Ad 40 0)), (3, .ref (Ad 90 0)), (4, .int i)]) C dL_law_245 (by decide) rfl ?_
    refine g_aload_n C dL_law_247 rfl 3 rfl ?_
    refine g_cVi (n := 0) (exc := []) (exr := []) C [] _ rfl rfl [] [] rfl rfl rfl rfl (fun _ _ h => absurd h (by simp)) (fun _ h => absurd h (by simp)) (fun _ h => absurd h (by simp)) (fun sz => zk_cut l (up3 r.2.1.1 90 0 0 r.2.2, r.2.1.2) ν a Ad hI.2.2 w  q hq D E sz) rfl gw_1489 gw_9 gw_1486 gw_1487 gw_1488 ⟨by decide +kernel, by decide +kernel, by decide +kernel⟩ ⟨rfl, rfl⟩ ⟨Nat.le_of_ble_eq_true rfl, Nat.le_of_ble_eq_true rfl⟩ (rcvT ⟨hI.2.2.1, fun e => absurd e (by decide)⟩ rfl rfl rfl) (Nat.le_of_ble_eq_true rfl) dL_law_248 (rm_hf (by omega) (by omega)) (fun r9 u hp hx => ?_)
    obtain ⟨er9, rfl⟩ := hp
    rw [er9]
    try dsimp only [List.nil_append]
    refine g_istore (lv' := [(6, .int q.2), (5, .int 0), (0, .ref b), (1, .ref (Ad 0 0)), (2, .ref (Ad 40 0)), (3, .ref (Ad 90 0)), (4, .int i)]) C dL_law_251 (by decide) rfl ?_
    refine g_aload_n C dL_law_253 rfl 4 rfl ?_
    refine g_cVi (n := 0) (exc := []) (exr := []) C [] _ rfl rfl [] [] rfl rfl rfl rfl (fun _ _ h => absurd h (by simp)) (fun _ h => absurd h (by simp)) (fun _ h => absurd h (by simp)) (fun sz => zk_thrown l (up3 r.2.1.1 90 0 0 r.2.2, r.2.1.2) ν q.1 Ad hI.2.2 w  t ht D E sz) rfl gw_1468 gw_9 gw_1465 gw_1466 gw_1467 ⟨by decide +kernel, by decide +kernel, by decide +kernel⟩ ⟨rfl, rfl⟩ ⟨Nat.le_of_ble_eq_true rfl, Nat.le_of_ble_eq_true rfl⟩ (rcvT ⟨hI.2.2.1, fun e => absurd e (by decide)⟩ rfl rfl rfl) (Nat.le_of_ble_eq_true rfl) dL_law_254 (rm_hf (by omega) (by omega)) (fun r9 u hp hx => ?_)
    obtain ⟨er9, rfl⟩ := hp
    rw [er9]
    try dsimp only [List.nil_append]
    refine g_iload C dL_law_257 1 rfl ?_
    refine g_icmp_eq (tgt := 264) C dL_law_259 (by decide) (fun c1 => ?_) (fun c1 => absurd e1 c1)
    refine g_iload C dL_law_264 1 rfl ?_
    refine g_if_ne (tgt := 281) C dL_law_266 (by decide) (fun c2 => absurd rfl c2) (fun c2 => ?_)
    refine g_aload_n C dL_law_269 rfl 5 rfl ?_
    refine g_iconst (v := 0) C dL_law_270 (by decide) ?_
    refine g_lald (μ := (up3 r.2.1.1 90 0 0 r.2.2, r.2.1.2)) (ν := ν) (a := q.1) (Ad := Ad) C rfl hI.2.1 dL_law_271 ?_
    refine g_iload C dL_law_272 0 rfl ?_
    refine g_i2l C dL_law_274 rfl ?_
    refine g_lcmp C dL_law_275 (fun r7 e7 => ?_)
    refine g_if_eq (tgt := 281) C dL_law_276 (by decide) (fun c3 => ?_) (fun c3 => absurd (e7.mpr (congrArg Int32.toInt64 (show up3 r.2.1.1 90 0 0 r.2.2 90 0 0 = _ from (up3_90 _ _).trans e2))) c3)
    refine g_goto (tgt := 2215) C dL_law_281 (by decide) ?_
    refine g_lv (lv' := [(0, .ref b), (1, .ref (Ad 0 0)), (2, .ref (Ad 40 0)), (3, .ref (Ad 90 0)), (4, .int i)]) [2, 3, 4, 5, 6] rfl ?_
    refine g_widen (k := cells + (kc ν - kc ν) + 1) (n := slots + (ks ν - ks ν) + 6) (by omega) (by omega) ?_
    exact kk Ad (mn_rfl _) (kp_rfl _ _)
  · rcases cd_cons ec with ⟨e0, e1⟩ | ec
    · have hf1 : cells + (kc ν - kc ν) + 1 ≤ 299000 := hf.1
      have hf2 : slots + (ks ν - ks ν) + 6 ≤ 3090000 := hf.2
      refine g_aload_n C dL_law_240 rfl 1 rfl ?_
      refine g_aload_n C dL_law_241 rfl 3 rfl ?_
      refine g_cSh (n := 2) (exr := []) C hEv hN h3 [_, _] _ rfl rfl [] rfl rfl (fun sz => e3_L_cut l hl B μ ν a Ad w  r.2 (thrS hr e0) hI.1 hI.2.1 D E sz) rfl gh_cut gw_0 gw_469 gw_470 ⟨by decide +kernel, by decide +kernel, by decide +kernel⟩ ⟨rfl, rfl⟩ ⟨Nat.le_of_ble_eq_true rfl, Nat.le_of_ble_eq_true rfl⟩ (Nat.le_of_ble_eq_true rfl) dL_law_242 (rm_hf (by omega) (by omega)) (fun r8 u hp hx => ?_)
      obtain ⟨er8, rfl⟩ := hp
      rw [er8]
      try dsimp only [List.nil_append]
      refine g_istore (lv' := [(5, .int 1), (0, .ref b), (1, .ref (Ad 0 0)), (2, .ref (Ad 40 0)), (3, .ref (Ad 90 0)), (4, .int i)]) C dL_law_245 (by decide) rfl ?_
      refine g_aload_n C dL_law_247 rfl 3 rfl ?_
      refine g_cVi (n := 0) (exc := []) (exr := []) C [] _ rfl rfl [] [] rfl rfl rfl rfl (fun _ _ h => absurd h (by simp)) (fun _ h => absurd h (by simp)) (fun _ h => absurd h (by simp)) (fun sz => zk_cut l μ ν a Ad hI.2.2 w  q hq D E sz) rfl gw_1489 gw_9 gw_1486 gw_1487 gw_1488 ⟨by decide +kernel, by decide +kernel, by decide +kernel⟩ ⟨rfl, rfl⟩ ⟨Nat.le_of_ble_eq_true rfl, Nat.le_of_ble_eq_true rfl⟩ (rcvT ⟨hI.2.2.1, fun e => absurd e (by decide)⟩ rfl rfl rfl) (Nat.le_of_ble_eq_true rfl) dL_law_248 (rm_hf (by omega) (by omega)) (fun r9 u hp hx => ?_)
      obtain ⟨er9, rfl⟩ := hp
      rw [er9]
      try dsimp only [List.nil_append]
      refine g_istore (lv' := [(6, .int q.2), (5, .int 1), (0, .ref b), (1, .ref (Ad 0 0)), (2, .ref (Ad 40 0)), (3, .ref (Ad 90 0)), (4, .int i)]) C dL_law_251 (by decide) rfl ?_
      refine g_aload_n C dL_law_253 rfl 4 rfl ?_
      refine g_cVi (n := 0) (exc := []) (exr := []) C [] _ rfl rfl [] [] rfl rfl rfl rfl (fun _ _ h => absurd h (by simp)) (fun _ h => absurd h (by simp)) (fun _ h => absurd h (by simp)) (fun sz => zk_thrown l μ ν q.1 Ad hI.2.2 w  t ht D E sz) rfl gw_1468 gw_9 gw_1465 gw_1466 gw_1467 ⟨by decide +kernel, by decide +kernel, by decide +kernel⟩ ⟨rfl, rfl⟩ ⟨Nat.le_of_ble_eq_true rfl, Nat.le_of_ble_eq_true rfl⟩ (rcvT ⟨hI.2.2.1, fun e => absurd e (by decide)⟩ rfl rfl rfl) (Nat.le_of_ble_eq_true rfl) dL_law_254 (rm_hf (by omega) (by omega)) (fun r9 u hp hx => ?_)
      obtain ⟨er9, rfl⟩ := hp
      rw [er9]
      try dsimp only [List.nil_append]
      refine g_iload C dL_law_257 1 rfl ?_
      refine g_icmp_eq (tgt := 264) C dL_law_259 (by decide) (fun c1 => ?_) (fun c1 => absurd e1 c1)
      refine g_iload C dL_law_264 1 rfl ?_
      refine g_if_ne (tgt := 281) C dL_law_266 (by decide) (fun c2 => ?_) (fun c2 => absurd c2 (by decide))
      refine g_goto (tgt := 2215) C dL_law_281 (by decide) ?_
      refine g_lv (lv' := [(0, .ref b), (1, .ref (Ad 0 0)), (2, .ref (Ad 40 0)), (3, .ref (Ad 90 0)), (4, .int i)]) [2, 3, 4, 5, 6] rfl ?_
      refine g_widen (k := cells + (kc ν - kc ν) + 1) (n := slots + (ks ν - ks ν) + 6) (by omega) (by omega) ?_
      exact kk Ad (mn_rfl _) (kp_rfl _ _)
    · exact cd_nil ec
noncomputable def s_come (w : Nat) (μ : MP) (ν : NC) (a : AS) (x1 : Int32) (x2 : Int32) : Option ((MP × NC) × AS) := (f_X8_come w μ ν x1 x2).bind fun r => (f_X9_come w a x1 x2).bind fun q => (f_X9_thrown w q.1).bind fun t => lwq true [(1, 1), (2, 2)] μ ν (r.1, r.2) q t
set_option maxHeartbeats 4000000 in
set_option maxRecDepth 100000 in
theorem w_come {p : Program} {l : Launch} {e : Env} {s : State} {m : MethodId} {args : Array Value} {below : List Frame} {meth : Method} {c : Code} {D : va_G} {E : Nat → ClassId} {A : Nat → Prop} {Q : State → Prop} {B : Nat × (Nat → Nat)} {a30 a31 : Nat} {μ : MP} {ν : NC} {a : AS} {Ad : Nat → Nat → Nat} {w : Nat} {b L : Nat} {xs : Nat → Int32} {cells slots : Nat} (C : cx p s m args meth c D E A cL_law 7 "TradeLineLaw") (hEv : eV a30 a31 B A s s.heap) (hN : vN s) (hl : l.stackTraces = false) (hI : lwI ν) (h3 : Ad 30 0 = a30 ∧ Ad 31 0 = a31) (hX : va_X b L xs s s.heap) (hbl : b < s.heap.size) (hbA : ¬ A b) {i x1 x2 : Int32} (q1 : vp_in (i + 1) L ∧ xs (i + 1).toNatClampNeg = x1) (q2 : vp_in (i + 2) L ∧ xs (i + 2).toNatClampNeg = x2) {S : (MP × NC) × AS} (h : s_come w μ ν a x1 x2 = some S) (hf : cells + (kc S.1.2 - kc ν) + 1 ≤ 299000 ∧ slots + (ks S.1.2 - ks ν) + 6 ≤ 3090000) (kk : ∀ A1, mn ν S.1.2 → kp ν Ad A1 → G p l e room_1 s m args below meth c D E A 7 Q (zS S.1.1 S.1.2 S.2 A1) [] (cells + (kc S.1.2 - kc ν) + 1) (slots + (ks S.1.2 - ks ν) + 6) 2215 [(0, .ref b), (1, .ref (A1 0 0)), (2, .ref (A1 40 0)), (3, .ref (A1 90 0)), (4, .int i)] []) : G p l e room_1 s m args below meth c D E A 7 Q (zS μ ν a Ad) [] (cells) (slots) 284 [(0, .ref b), (1, .ref (Ad 0 0)), (2, .ref (Ad 40 0)), (3, .ref (Ad 90 0)), (4, .int i)] [] := by
  unfold s_come at h
  obtain ⟨r, hr, h⟩ := bind_of h
  obtain ⟨q, hq, h⟩ := bind_of h
  obtain ⟨t, ht, h⟩ := bind_of h
  rcases lwq_t h with ⟨e0, e1, e2, rfl⟩ | ⟨ec, rfl⟩
  · replace e0 : r.1 = 0 := e0
    have hf1 : cells + (kc r.2.1.2 - kc ν) + 1 ≤ 299000 := hf.1
    have hf2 : slots + (ks r.2.1.2 - ks ν) + 6 ≤ 3090000 := hf.2
    refine g_aload_n C dL_law_284 rfl 1 rfl ?_
    refine g_aload_n C dL_law_285 rfl 0 rfl ?_
    refine g_iload C dL_law_286 4 rfl ?_
    refine g_iconst (v := 1) C dL_law_288 (by decide) ?_
    refine g_iadd C dL_law_289 ?_
    refine g_ialdX C hX hbl hbA q1.1 dL_law_290 ?_
    rw [q1.2]
    refine g_aload_n C dL_law_291 rfl 0 rfl ?_
    refine g_iload C dL_law_292 4 rfl ?_
    refine g_iconst (v := 2) C dL_law_294 (by decide) ?_
    refine g_iadd C dL_law_295 ?_
    refine g_ialdX C hX hbl hbA q2.1 dL_law_296 ?_
    rw [q2.2]
    refine g_aload_n C dL_law_297 rfl 3 rfl ?_
    refine g_cSh (n := 4) (exr := []) C hEv hN h3 [_, _, _, _] _ rfl rfl [] rfl rfl (fun sz => r_L_come l B μ ν a Ad w x1 x2 r.2 (thr0 hr e0) hI.1 hI.2.1 D E sz) rfl gh_come gw_0 gw_496 gw_497 ⟨by decide +kernel, by decide +kernel, by decide +kernel⟩ ⟨rfl, rfl⟩ ⟨Nat.le_of_ble_eq_true rfl, Nat.le_of_ble_eq_true rfl⟩ (Nat.le_of_ble_eq_true rfl) dL_law_298 (rm_hf (by omega) (by omega)) (fun r8 u hp hx => ?_)
    obtain ⟨er8, A1, rfl, hkp⟩ := hp
    rw [er8]
    try dsimp only [List.nil_append]
    have hm : mn ν r.2.1.2 := m_X8_come (thr0 hr e0)
    have hI1 := lwI_mn hI hm
    rw [show Ad 0 0 = A1 0 0 from (hkp.1 0 0 rfl hI.1).symm, show Ad 40 0 = A1 40 0 from (hkp.1 40 0 rfl hI.2.2.1).symm, show Ad 90 0 = A1 90 0 from (hkp.1 90 0 rfl hI.2.1.1).symm]
    refine g_istore (lv' := [(5, .int 0), (0, .ref b), (1, .ref (A1 0 0)), (2, .ref (A1 40 0)), (3, .ref (A1 90 0)), (4, .int i)]) C dL_law_301 (by decide) rfl ?_
    refine g_aload_n C dL_law_303 rfl 3 rfl ?_
    refine g_aload_n C dL_law_304 rfl 1 rfl ?_
    refine g_iload C dL_law_305 5 rfl ?_
    refine g_iconst (v := 1) C dL_law_307 (by decide) ?_
    refine g_iadd C dL_law_308 ?_
    refine g_ialdX C hX hbl hbA q1.1 dL_law_309 ?_
    rw [q1.2]
    refine g_aload_n C dL_law_310 rfl 1 rfl ?_
    refine g_iload C dL_law_311 5 rfl ?_
    refine g_iconst (v := 2) C dL_law_313 (by decide) ?_
    refine g_iadd C dL_law_314 ?_
    refine g_ialdX C hX hbl hbA q2.1 dL_law_315 ?_
    rw [q2.2]
    refine g_cVi (n := 2) (exc := []) (exr := []) C [_, _] _ rfl rfl [] [] rfl rfl rfl rfl (fun _ _ h => absurd h (by simp)) (fun _ h => absurd h (by simp)) (fun _ h => absurd h (by simp)) (fun sz => zk_come l (up3 r.2.1.1.1 90 0 0 r.2.2, r.2.1.1.2) r.2.1.2 a A1 hI1.2.2 w x1 x2 q hq D E sz) rfl gw_1501 gw_9 gw_1498 gw_1499 gw_1500 ⟨by decide +kernel, by decide +kernel, by decide +kernel⟩ ⟨rfl, rfl⟩ ⟨Nat.le_of_ble_eq_true rfl, Nat.le_of_ble_eq_true rfl⟩ (rcvT ⟨hI1.2.2.1, fun e => absurd e (by decide)⟩ rfl rfl rfl) (Nat.le_of_ble_eq_true rfl) dL_law_316 (rm_hf (by omega) (by omega)) (fun r9 u hp hx => ?_)
    obtain ⟨er9, rfl⟩ := hp
    rw [er9]
    try dsimp only [List.nil_append]
    refine g_istore (lv' := [(6, .int q.2), (5, .int 0), (0, .ref b), (1, .ref (A1 0 0)), (2, .ref (A1 40 0)), (3, .ref (A1 90 0)), (4, .int i)]) C dL_law_319 (by decide) rfl ?_
    refine g_aload_n C dL_law_321 rfl 4 rfl ?_
    refine g_cVi (n := 0) (exc := []) (exr := []) C [] _ rfl rfl [] [] rfl rfl rfl rfl (fun _ _ h => absurd h (by simp)) (fun _ h => absurd h (by simp)) (fun _ h => absurd h (by simp)) (fun sz => zk_thrown l (up3 r.2.1.1.1 90 0 0 r.2.2, r.2.1.1.2) r.2.1.2 q.1 A1 hI1.2.2 w  t ht D E sz) rfl gw_1468 gw_9 gw_1465 gw_1466 gw_1467 ⟨by decide +kernel, by decide +kernel, by decide +kernel⟩ ⟨rfl, rfl⟩ ⟨Nat.le_of_ble_eq_true rfl, Nat.le_of_ble_eq_true rfl⟩ (rcvT ⟨hI1.2.2.1, fun e => absurd e (by decide)⟩ rfl rfl rfl) (Nat.le_of_ble_eq_true rfl) dL_law_322 (rm_hf (by omega) (by omega)) (fun r9 u hp hx => ?_)
    obtain ⟨er9, rfl⟩ := hp
    rw [er9]
    try dsimp only [List.nil_append]
    refine g_iload C dL_law_325 1 rfl ?_
    refine g_icmp_eq (tgt := 332) C dL_law_327 (by decide) (fun c1 => ?_) (fun c1 => absurd e1 c1)
    refine g_iload C dL_law_332 1 rfl ?_
    refine g_if_ne (tgt := 349) C dL_law_334 (by decide) (fun c2 => absurd rfl c2) (fun c2 => ?_)
    refine g_aload_n C dL_law_337 rfl 5 rfl ?_
    refine g_iconst (v := 0) C dL_law_338 (by decide) ?_
    refine g_lald (μ := (up3 r.2.1.1.1 90 0 0 r.2.2, r.2.1.1.2)) (ν := r.2.1.2) (a := q.1) (Ad := A1) C rfl hI1.2.1 dL_law_339 ?_
    refine g_iload C dL_law_340 0 rfl ?_
    refine g_i2l C dL_law_342 rfl ?_
    refine g_lcmp C dL_law_343 (fun r7 e7 => ?_)
    refine g_if_eq (tgt := 349) C dL_law_344 (by decide) (fun c3 => ?_) (fun c3 => absurd (e7.mpr (congrArg Int32.toInt64 (show up3 r.2.1.1.1 90 0 0 r.2.2 90 0 0 = _ from (up3_90 _ _).trans e2))) c3)
    refine g_goto (tgt := 2215) C dL_law_349 (by decide) ?_
    refine g_lv (lv' := [(0, .ref b), (1, .ref (A1 0 0)), (2, .ref (A1 40 0)), (3, .ref (A1 90 0)), (4, .int i)]) [2, 3, 4, 5, 6] rfl ?_
    refine g_widen (k := cells + (kc r.2.1.2 - kc ν) + 1) (n := slots + (ks r.2.1.2 - ks ν) + 6) (by omega) (by omega) ?_
    exact kk A1 hm hkp
  · rcases cd_cons ec with ⟨e0, e1⟩ | ec
    · have hf1 : cells + (kc ν - kc ν) + 1 ≤ 299000 := hf.1
      have hf2 : slots + (ks ν - ks ν) + 6 ≤ 3090000 := hf.2
      refine g_aload_n C dL_law_284 rfl 1 rfl ?_
      refine g_aload_n C dL_law_285 rfl 0 rfl ?_
      refine g_iload C dL_law_286 4 rfl ?_
      refine g_iconst (v := 1) C dL_law_288 (by decide) ?_
      refine g_iadd C dL_law_289 ?_
      refine g_ialdX C hX hbl hbA q1.1 dL_law_290 ?_
      rw [q1.2]
      refine g_aload_n C dL_law_291 rfl 0 rfl ?_
      refine g_iload C dL_law_292 4 rfl ?_
      refine g_iconst (v := 2) C dL_law_294 (by decide) ?_
      refine g_iadd C dL_law_295 ?_
      refine g_ialdX C hX hbl hbA q2.1 dL_law_296 ?_
      rw [q2.2]
      refine g_aload_n C dL_law_297 rfl 3 rfl ?_
      refine g_cSh (n := 4) (exr := []) C hEv hN h3 [_, _, _, _] _ rfl rfl [] rfl rfl (fun sz => e1_L_come l hl B μ ν a Ad w x1 x2 r.2 (thrS hr e0) hI.1 hI.2.1 D E sz) rfl gh_come gw_0 gw_496 gw_497 ⟨by decide +kernel, by decide +kernel, by decide +kernel⟩ ⟨rfl, rfl⟩ ⟨Nat.le_of_ble_eq_true rfl, Nat.le_of_ble_eq_true rfl⟩ (Nat.le_of_ble_eq_true rfl) dL_law_298 (rm_hf (by omega) (by omega)) (fun r8 u hp hx => ?_)
      obtain ⟨er8, rfl⟩ := hp
      rw [er8]
      try dsimp only [List.nil_append]
      refine g_istore (lv' := [(5, .int 1), (0, .ref b), (1, .ref (Ad 0 0)), (2, .ref (Ad 40 0)), (3, .ref (Ad 90 0)), (4, .int i)]) C dL_law_301 (by decide) rfl ?_
      refine g_aload_n C dL_law_303 rfl 3 rfl ?_
      refine g_aload_n C dL_law_304 rfl 1 rfl ?_
      refine g_iload C dL_law_305 5 rfl ?_
      refine g_iconst (v := 1) C dL_law_307 (by decide) ?_
      refine g_iadd C dL_law_308 ?_
      refine g_ialdX C hX hbl hbA q1.1 dL_law_309 ?_
      rw [q1.2]
      refine g_aload_n C dL_law_310 rfl 1 rfl ?_
      refine g_iload C dL_law_311 5 rfl ?_
      refine g_iconst (v := 2) C dL_law_313 (by decide) ?_
      refine g_iadd C dL_law_314 ?_
      refine g_ialdX C hX hbl hbA q2.1 dL_law_315 ?_
      rw [q2.2]
      refine g_cVi (n := 2) (exc := []) (exr := []) C [_, _] _ rfl rfl [] [] rfl rfl rfl rfl (fun _ _ h => absurd h (by simp)) (fun _ h => absurd h (by simp)) (fun _ h => absurd h (by simp)) (fun sz => zk_come l μ ν a Ad hI.2.2 w x1 x2 q hq D E sz) rfl gw_1501 gw_9 gw_1498 gw_1499 gw_1500 ⟨by decide +kernel, by decide +kernel, by decide +kernel⟩ ⟨rfl, rfl⟩ ⟨Nat.le_of_ble_eq_true rfl, Nat.le_of_ble_eq_true rfl⟩ (rcvT ⟨hI.2.2.1, fun e => absurd e (by decide)⟩ rfl rfl rfl) (Nat.le_of_ble_eq_true rfl) dL_law_316 (rm_hf (by omega) (by omega)) (fun r9 u hp hx => ?_)
      obtain ⟨er9, rfl⟩ := hp
      rw [er9]
      try dsimp only [List.nil_append]
      refine g_istore (lv' := [(6, .int q.2), (5, .int 1), (0, .ref b), (1, .ref (Ad 0 0)), (2, .ref (Ad 40 0)), (3, .ref (Ad 90 0)), (4, .int i)]) C dL_law_319 (by decide) rfl ?_
      refine g_aload_n C dL_law_321 rfl 4 rfl ?_
      refine g_cVi (n := 0) (exc := []) (exr := []) C [] _ rfl rfl [] [] rfl rfl rfl rfl (fun _ _ h => absurd h (by simp)) (fun _ h => absurd h (by simp)) (fun _ h => absurd h (by simp)) (fun sz => zk_thrown l μ ν q.1 Ad hI.2.2 w  t ht D E sz) rfl gw_1468 gw_9 gw_1465 gw_1466 gw_1467 ⟨by decide +kernel, by decide +kernel, by decide +kernel⟩ ⟨rfl, rfl⟩ ⟨Nat.le_of_ble_eq_true rfl, Nat.le_of_ble_eq_true rfl⟩ (rcvT ⟨hI.2.2.1, fun e => absurd e (by decide)⟩ rfl rfl rfl) (Nat.le_of_ble_eq_true rfl) dL_law_322 (rm_hf (by omega) (by omega)) (fun r9 u hp hx => ?_)
      obtain ⟨er9, rfl⟩ := hp
      rw [er9]
      try dsimp only [List.nil_append]
      refine g_iload C dL_law_325 1 rfl ?_
      refine g_icmp_eq (tgt := 332) C dL_law_327 (by decide) (fun c1 => ?_) (fun c1 => absurd e1 c1)
      refine g_iload C dL_law_332 1 rfl ?_
      refine g_if_ne (tgt := 349) C dL_law_334 (by decide) (fun c2 => ?_) (fun c2 => absurd c2 (by decide))
      refine g_goto (tgt := 2215) C dL_law_349 (by decide) ?_
      refine g_lv (lv' := [(0, .ref b), (1, .ref (Ad 0 0)), (2, .ref (Ad 40 0)), (3, .ref (Ad 90 0)), (4, .int i)]) [2, 3, 4, 5, 6] rfl ?_
      refine g_widen (k := cells + (kc ν - kc ν) + 1) (n := slots + (ks ν - ks ν) + 6) (by omega) (by omega) ?_
      exact kk Ad (mn_rfl _) (kp_rfl _ _)
    · skip
      rcases cd_cons ec with ⟨e0, e1⟩ | ec
      · have hf1 : cells + (kc ν - kc ν) + 1 ≤ 299000 := hf.1
        have hf2 : slots + (ks ν - ks ν) + 6 ≤ 3090000 := hf.2
        refine g_aload_n C dL_law_284 rfl 1 rfl ?_
        refine g_aload_n C dL_law_285 rfl 0 rfl ?_
        refine g_iload C dL_law_286 4 rfl ?_
        refine g_iconst (v := 1) C dL_law_288 (by decide) ?_
        refine g_iadd C dL_law_289 ?_
        refine g_ialdX C hX hbl hbA q1.1 dL_law_290 ?_
        rw [q1.2]
        refine g_aload_n C dL_law_291 rfl 0 rfl ?_
        refine g_iload C dL_law_292 4 rfl ?_
        refine g_iconst (v := 2) C dL_law_294 (by decide) ?_
        refine g_iadd C dL_law_295 ?_
        refine g_ialdX C hX hbl hbA q2.1 dL_law_296 ?_
        rw [q2.2]
        refine g_aload_n C dL_law_297 rfl 3 rfl ?_
        refine g_cSh (n := 4) (exr := []) C hEv hN h3 [_, _, _, _] _ rfl rfl [] rfl rfl (fun sz => e2_L_come l hl B μ ν a Ad w x1 x2 r.2 (thrS hr e0) hI.1 hI.2.1 D E sz) rfl gh_come gw_0 gw_496 gw_497 ⟨by decide +kernel, by decide +kernel, by decide +kernel⟩ ⟨rfl, rfl⟩ ⟨Nat.le_of_ble_eq_true rfl, Nat.le_of_ble_eq_true rfl⟩ (Nat.le_of_ble_eq_true rfl) dL_law_298 (rm_hf (by omega) (by omega)) (fun r8 u hp hx => ?_)
        obtain ⟨er8, rfl⟩ := hp
        rw [er8]
        try dsimp only [List.nil_append]
        refine g_istore (lv' := [(5, .int 2), (0, .ref b), (1, .ref (Ad 0 0)), (2, .ref (Ad 40 0)), (3, .ref (Ad 90 0)), (4, .int i)]) C dL_law_301 (by decide) rfl ?_
        refine g_aload_n C dL_law_303 rfl 3 rfl ?_
        refine g_aload_n C dL_law_304 rfl 1 rfl ?_
        refine g_iload C dL_law_305 5 rfl ?_
        refine g_iconst (v := 1) C dL_law_307 (by decide) ?_
        refine g_iadd C dL_law_308 ?_
        refine g_ialdX C hX hbl hbA q1.1 dL_law_309 ?_
        rw [q1.2]
        refine g_aload_n C dL_law_310 rfl 1 rfl ?_
        refine g_iload C dL_law_311 5 rfl ?_
        refine g_iconst (v := 2) C dL_law_313 (by decide) ?_
        refine g_iadd C dL_law_314 ?_
        refine g_ialdX C hX hbl hbA q2.1 dL_law_315 ?_
        rw [q2.2]
        refine g_cVi (n := 2) (exc := []) (exr := []) C [_, _] _ rfl rfl [] [] rfl rfl rfl rfl (fun _ _ h => absurd h (by simp)) (fun _ h => absurd h (by simp)) (fun _ h => absurd h (by simp)) (fun sz => zk_come l μ ν a Ad hI.2.2 w x1 x2 q hq D E sz) rfl gw_1501 gw_9 gw_1498 gw_1499 gw_1500 ⟨by decide +kernel, by decide +kernel, by decide +kernel⟩ ⟨rfl, rfl⟩ ⟨Nat.le_of_ble_eq_true rfl, Nat.le_of_ble_eq_true rfl⟩ (rcvT ⟨hI.2.2.1, fun e => absurd e (by decide)⟩ rfl rfl rfl) (Nat.le_of_ble_eq_true rfl) dL_law_316 (rm_hf (by omega) (by omega)) (fun r9 u hp hx => ?_)
        obtain ⟨er9, rfl⟩ := hp
        rw [er9]
        try dsimp only [List.nil_append]
        refine g_istore (lv' := [(6, .int q.2), (5, .int 2), (0, .ref b), (1, .ref (Ad 0 0)), (2, .ref (Ad 40 0)), (3, .ref (Ad 90 0)), (4, .int i)]) C dL_law_319 (by decide) rfl ?_
        refine g_aload_n C dL_law_321 rfl 4 rfl ?_
        refine g_cVi (n := 0) (exc := []) (exr := []) C [] _ rfl rfl [] [] rfl rfl rfl rfl (fun _ _ h => absurd h (by simp)) (fun _ h => absurd h (by simp)) (fun _ h => absurd h (by simp)) (fun sz => zk_thrown l μ ν q.1 Ad hI.2.2 w  t ht D E sz) rfl gw_1468 gw_9 gw_1465 gw_1466 gw_1467 ⟨by decide +kernel, by decide +kernel, by decide +kernel⟩ ⟨rfl, rfl⟩ ⟨Nat.le_of_ble_eq_true rfl, Nat.le_of_ble_eq_true rfl⟩ (rcvT ⟨hI.2.2.1, fun e => absurd e (by decide)⟩ rfl rfl rfl) (Nat.le_of_ble_eq_true rfl) dL_law_322 (rm_hf (by omega) (by omega)) (fun r9 u hp hx => ?_)
        obtain ⟨er9, rfl⟩ := hp
        rw [er9]
        try dsimp only [List.nil_append]
        refine g_iload C dL_law_325 1 rfl ?_
        refine g_icmp_eq (tgt := 332) C dL_law_327 (by decide) (fun c1 => ?_) (fun c1 => absurd e1 c1)
        refine g_iload C dL_law_332 1 rfl ?_
        refine g_if_ne (tgt := 349) C dL_law_334 (by decide) (fun c2 => ?_) (fun c2 => absurd c2 (by decide))
        refine g_goto (tgt := 2215) C dL_law_349 (by decide) ?_
        refine g_lv (lv' := [(0, .ref b), (1, .ref (Ad 0 0)), (2, .ref (Ad 40 0)), (3, .ref (Ad 90 0)), (4, .int i)]) [2, 3, 4, 5, 6] rfl ?_
        refine g_widen (k := cells + (kc ν - kc ν) + 1) (n := slots + (ks ν - ks ν) + 6) (by omega) (by omega) ?_
        exact kk Ad (mn_rfl _) (kp_rfl _ _)
      · exact cd_nil ec
noncomputable def s_garble (w : Nat) (μ : MP) (ν : NC) (a : AS) (x1 : Int32) (x2 : Int32) : Option ((MP × NC) × AS) := (f_X8_garble w μ ν x1 x2).bind fun r => (f_X9_garble w a x1 x2).bind fun q => (f_X9_thrown w q.1).bind fun t => lwq true [(1, 1)] μ ν (r.1, ((r.2.1, ν), r.2.2)) q t
set_option maxHeartbeats 4000000 in
set_option maxRecDepth 100000 in
theorem w_garble {p : Program} {l : Launch} {e : Env} {s : State} {m : MethodId} {args : Array Value} {below : List Frame} {meth : Method} {c : Code} {D : va_G} {E : Nat → ClassId} {A : Nat → Prop} {Q : State → Prop} {B : Nat × (Nat → Nat)} {a30 a31 : Nat} {μ : MP} {ν : NC} {a : AS} {Ad : Nat → Nat → Nat} {w : Nat} {b L : Nat} {xs : Nat → Int32} {cells slots : Nat} (C : cx p s m args meth c D E A cL_law 7 "TradeLineLaw") (hEv : eV a30 a31 B A s s.heap) (hN : vN s) (hl : l.stackTraces = false) (hI : lwI ν) (h3 : Ad 30 0 = a30 ∧ Ad 31 0 = a31) (hX : va_X b L xs s s.heap) (hbl : b < s.heap.size) (hbA : ¬ A b) {i x1 x2 : Int32} (q1 : vp_in (i + 1) L ∧ xs (i + 1).toNatClampNeg = x1) (q2 : vp_in (i + 2) L ∧ xs (i + 2).toNatClampNeg = x2) {S : (MP × NC) × AS} (h : s_garble w μ ν a x1 x2 = some S) (hf : cells + (kc S.1.2 - kc ν) + 1 ≤ 299000 ∧ slots + (ks S.1.2 - ks ν) + 6 ≤ 3090000) (kk : ∀ A1, mn ν S.1.2 → kp ν Ad A1 → G p l e room_1 s m args below meth c D E A 7 Q (zS S.1.1 S.1.2 S.2 A1) [] (cells + (kc S.1.2 - kc ν) + 1) (slots + (ks S.1.2 - ks ν) + 6) 2215 [(0, .ref b), (1, .ref (A1 0 0)), (2, .ref (A1 40 0)), (3, .ref (A1 90 0)), (4, .int i)] []) : G p l e room_1 s m args below meth c D E A 7 Q (zS μ ν a Ad) [] (cells) (slots) 352 [(0, .ref b), (1, .ref (Ad 0 0)), (2, .ref (Ad 40 0)), (3, .ref (Ad 90 0)), (4, .int i)] [] := by
  unfold s_garble at h
  obtain ⟨r, hr, h⟩ := bind_of h
  obtain ⟨q, hq, h⟩ := bind_of h
  obtain ⟨t, ht, h⟩ := bind_of h
  rcases lwq_t h with ⟨e0, e1, e2, rfl⟩ | ⟨ec, rfl⟩
  · replace e0 : r.1 = 0 := e0
    have hf1 : cells + (kc ν - kc ν) + 1 ≤ 299000 := hf.1
    have hf2 : slots + (ks ν - ks ν) + 6 ≤ 3090000 := hf.2
    refine g_aload_n C dL_law_352 rfl 1 rfl ?_
    refine g_aload_n C dL_law_353 rfl 0 rfl ?_
    refine g_iload C dL_law_354 4 rfl ?_
    refine g_iconst (v := 1) C dL_law_356 (by decide) ?_
    refine g_iadd C dL_law_357 ?_
    refine g_ialdX C hX hbl hbA q1.1 dL_law_358 ?_
    rw [q1.2]
    refine g_aload_n C dL_law_359 rfl 0 rfl ?_
    refine g_iload C dL_law_360 4 rfl ?_
    refine g_iconst (v := 2) C dL_law_362 (by decide) ?_
    refine g_iadd C dL_law_363 ?_
    refine g_ialdX C hX hbl hbA q2.1 dL_law_364 ?_
    rw [q2.2]
    refine g_aload_n C dL_law_365 rfl 3 rfl ?_
    refine g_cSh (n := 4) (exr := []) C hEv hN h3 [_, _, _, _] _ rfl rfl [] rfl rfl (fun sz => r_L_garble l B μ ν a Ad w x1 x2 r.2 (thr0 hr e0) hI.1 hI.2.1 D E sz) rfl gh_garble gw_0 gw_1000 gw_1001 ⟨by decide +kernel, by decide +kernel, by decide +kernel⟩ ⟨rfl, rfl⟩ ⟨Nat.le_of_ble_eq_true rfl, Nat.le_of_ble_eq_true rfl⟩ (Nat.le_of_ble_eq_true rfl) dL_law_366 (rm_hf (by omega) (by omega)) (fun r8 u hp hx => ?_)
    obtain ⟨er8, rfl⟩ := hp
    rw [er8]
    try dsimp only [List.nil_append]
    refine g_istore (lv' := [(5, .int 0), (0, .ref b), (1, .ref (Ad 0 0)), (2, .ref (Ad 40 0)), (3, .ref (Ad 90 0)), (4, .int i)]) C dL_law_369 (by decide) rfl ?_
    refine g_aload_n C dL_law_371 rfl 3 rfl ?_
    refine g_aload_n C dL_law_372 rfl 1 rfl ?_
    refine g_iload C dL_law_373 5 rfl ?_
    refine g_iconst (v := 1) C dL_law_375 (by decide) ?_
    refine g_iadd C dL_law_376 ?_
    refine g_ialdX C hX hbl hbA q1.1 dL_law_377 ?_
    rw [q1.2]
    refine g_aload_n C dL_law_378 rfl 1 rfl ?_
    refine g_iload C dL_law_379 5 rfl ?_
    refine g_iconst (v := 2) C dL_law_381 (by decide) ?_
    refine g_iadd C dL_law_382 ?_
    refine g_ialdX C hX hbl hbA q2.1 dL_law_383 ?_
    rw [q2.2]
    refine g_cVi (n := 2) (exc := []) (exr := []) C [_, _] _ rfl rfl [] [] rfl rfl rfl rfl (fun _ _ h => absurd h (by simp)) (fun _ h => absurd h (by simp)) (fun _ h => absurd h (by simp)) (fun sz => zk_garble l (up3 r.2.1.1 90 0 0 r.2.2, r.2.1.2) ν a Ad hI.2.2 w x1 x2 q hq D E sz) rfl gw_1579 gw_9 gw_1576 gw_1577 gw_1578 ⟨by decide +kernel, by decide +kernel, by decide +kernel⟩ ⟨rfl, rfl⟩ ⟨Nat.le_of_ble_eq_true rfl, Nat.le_of_ble_eq_true rfl⟩ (rcvT ⟨hI.2.2.1, fun e => absurd e (by decide)⟩ rfl rfl rfl) (Nat.le_of_ble_eq_true rfl) dL_law_384 (rm_hf (by omega) (by omega)) (fun r9 u hp hx => ?_)
    obtain ⟨er9, rfl⟩ := hp
    rw [er9]
    try dsimp only [List.nil_append]
    refine g_istore (lv' := [(6, .int q.2), (5, .int 0), (0, .ref b), (1, .ref (Ad 0 0)), (2, .ref (Ad 40 0)), (3, .ref (Ad 90 0)), (4, .int i)]) C dL_law_387 (by decide) rfl ?_
    refine g_aload_n C dL_law_389 rfl 4 rfl ?_
    refine g_cVi (n := 0) (exc := []) (exr := []) C [] _ rfl rfl [] [] rfl rfl rfl rfl (fun _ _ h => absurd h (by simp)) (fun _ h => absurd h (by simp)) (fun _ h => absurd h (by simp)) (fun sz => zk_thrown l (up3 r.2.1.1 90 0 0 r.2.2, r.2.1.2) ν q.1 Ad hI.2.2 w  t ht D E sz) rfl gw_1468 gw_9 gw_1465 gw_1466 gw_1467 ⟨by decide +kernel, by decide +kernel, by decide +kernel⟩ ⟨rfl, rfl⟩ ⟨Nat.le_of_ble_eq_true rfl, Nat.le_of_ble_eq_true rfl⟩ (rcvT ⟨hI.2.2.1, fun e => absurd e (by decide)⟩ rfl rfl rfl) (Nat.le_of_ble_eq_true rfl) dL_law_390 (rm_hf (by omega) (by omega)) (fun r9 u hp hx => ?_)
    obtain ⟨er9, rfl⟩ := hp
    rw [er9]
    try dsimp only [List.nil_append]
    refine g_iload C dL_law_393 1 rfl ?_
    refine g_icmp_eq (tgt := 400) C dL_law_395 (by decide) (fun c1 => ?_) (fun c1 => absurd e1 c1)
    refine g_iload C dL_law_400 1 rfl ?_
    refine g_if_ne (tgt := 417) C dL_law_402 (by decide) (fun c2 => absurd rfl c2) (fun c2 => ?_)
    refine g_aload_n C dL_law_405 rfl 5 rfl ?_
    refine g_iconst (v := 0) C dL_law_406 (by decide) ?_
    refine g_lald (μ := (up3 r.2.1.1 90 0 0 r.2.2, r.2.1.2)) (ν := ν) (a := q.1) (Ad := Ad) C rfl hI.2.1 dL_law_407 ?_
    refine g_iload C dL_law_408 0 rfl ?_
    refine g_i2l C dL_law_410 rfl ?_
    refine g_lcmp C dL_law_411 (fun r7 e7 => ?_)
    refine g_if_eq (tgt := 417) C dL_law_412 (by decide) (fun c3 => ?_) (fun c3 => absurd (e7.mpr (congrArg Int32.toInt64 (show up3 r.2.1.1 90 0 0 r.2.2 90 0 0 = _ from (up3_90 _ _).trans e2))) c3)
    refine g_goto (tgt := 2215) C dL_law_417 (by decide) ?_
    refine g_lv (lv' := [(0, .ref b), (1, .ref (Ad 0 0)), (2, .ref (Ad 40 0)), (3, .ref (Ad 90 0)), (4, .int i)]) [2, 3, 4, 5, 6] rfl ?_
    refine g_widen (k := cells + (kc ν - kc ν) + 1) (n := slots + (ks ν - ks ν) + 6) (by omega) (by omega) ?_
    exact kk Ad (mn_rfl _) (kp_rfl _ _)
  · rcases cd_cons ec with ⟨e0, e1⟩ | ec
    · have hf1 : cells + (kc ν - kc ν) + 1 ≤ 299000 := hf.1
      have hf2 : slots + (ks ν - ks ν) + 6 ≤ 3090000 := hf.2
      refine g_aload_n C dL_law_352 rfl 1 rfl ?_
      refine g_aload_n C dL_law_353 rfl 0 rfl ?_
      refine g_iload C dL_law_354 4 rfl ?_
      refine g_iconst (v := 1) C dL_law_356 (by decide) ?_
      refine g_iadd C dL_law_357 ?_
      refine g_ialdX C hX hbl hbA q1.1 dL_law_358 ?_
      rw [q1.2]
      refine g_aload_n C dL_law_359 rfl 0 rfl ?_
      refine g_iload C dL_law_360 4 rfl ?_
      refine g_iconst (v := 2) C dL_law_362 (by decide) ?_
      refine g_iadd C dL_law_363 ?_
      refine g_ialdX C hX hbl hbA q2.1 dL_law_364 ?_
      rw [q2.2]
      refine g_aload_n C dL_law_365 rfl 3 rfl ?_
      refine g_cSh (n := 4) (exr := []) C hEv hN h3 [_, _, _, _] _ rfl rfl [] rfl rfl (fun sz => e1_L_garble l hl B μ ν a Ad w x1 x2 r.2 (thrS hr e0) hI.1 hI.2.1 D E sz) rfl gh_garble gw_0 gw_1000 gw_1001 ⟨by decide +kernel, by decide +kernel, by decide +kernel⟩ ⟨rfl, rfl⟩ ⟨Nat.le_of_ble_eq_true rfl, Nat.le_of_ble_eq_true rfl⟩ (Nat.le_of_ble_eq_true rfl) dL_law_366 (rm_hf (by omega) (by omega)) (fun r8 u hp hx => ?_)
      obtain ⟨er8, rfl⟩ := hp
      rw [er8]
      try dsimp only [List.nil_append]
      refine g_istore (lv' := [(5, .int 1), (0, .ref b), (1, .ref (Ad 0 0)), (2, .ref (Ad 40 0)), (3, .ref (Ad 90 0)), (4, .int i)]) C dL_law_369 (by decide) rfl ?_
      refine g_aload_n C dL_law_371 rfl 3 rfl ?_
      refine g_aload_n C dL_law_372 rfl 1 rfl ?_
      refine g_iload C dL_law_373 5 rfl ?_
      refine g_iconst (v := 1) C dL_law_375 (by decide) ?_
      refine g_iadd C dL_law_376 ?_
      refine g_ialdX C hX hbl hbA q1.1 dL_law_377 ?_
      rw [q1.2]
      refine g_aload_n C dL_law_378 rfl 1 rfl ?_
      refine g_iload C dL_law_379 5 rfl ?_
      refine g_iconst (v := 2) C dL_law_381 (by decide) ?_
      refine g_iadd C dL_law_382 ?_
      refine g_ialdX C hX hbl hbA q2.1 dL_law_383 ?_
      rw [q2.2]
      refine g_cVi (n := 2) (exc := []) (exr := []) C [_, _] _ rfl rfl [] [] rfl rfl rfl rfl (fun _ _ h => absurd h (by simp)) (fun _ h => absurd h (by simp)) (fun _ h => absurd h (by simp)) (fun sz => zk_garble l μ ν a Ad hI.2.2 w x1 x2 q hq D E sz) rfl gw_1579 gw_9 gw_1576 gw_1577 gw_1578 ⟨by decide +kernel, by decide +kernel, by decide +kernel⟩ ⟨rfl, rfl⟩ ⟨Nat.le_of_ble_eq_true rfl, Nat.le_of_ble_eq_true rfl⟩ (rcvT ⟨hI.2.2.1, fun e => absurd e (by decide)⟩ rfl rfl rfl) (Nat.le_of_ble_eq_true rfl) dL_law_384 (rm_hf (by omega) (by omega)) (fun r9 u hp hx => ?_)
      obtain ⟨er9, rfl⟩ := hp
      rw [er9]
      try dsimp only [List.nil_append]
      refine g_istore (lv' := [(6, .int q.2), (5, .int 1), (0, .ref b), (1, .ref (Ad 0 0)), (2, .ref (Ad 40 0)), (3, .ref (Ad 90 0)), (4, .int i)]) C dL_law_387 (by decide) rfl ?_
      refine g_aload_n C dL_law_389 rfl 4 rfl ?_
      refine g_cVi (n := 0) (exc := []) (exr := []) C [] _ rfl rfl [] [] rfl rfl rfl rfl (fun _ _ h => absurd h (by simp)) (fun _ h => absurd h (by simp)) (fun _ h => absurd h (by simp)) (fun sz => zk_thrown l μ ν q.1 Ad hI.2.2 w  t ht D E sz) rfl gw_1468 gw_9 gw_1465 gw_1466 gw_1467 ⟨by decide +kernel, by decide +kernel, by decide +kernel⟩ ⟨rfl, rfl⟩ ⟨Nat.le_of_ble_eq_true rfl, Nat.le_of_ble_eq_true rfl⟩ (rcvT ⟨hI.2.2.1, fun e => absurd e (by decide)⟩ rfl rfl rfl) (Nat.le_of_ble_eq_true rfl) dL_law_390 (rm_hf (by omega) (by omega)) (fun r9 u hp hx => ?_)
      obtain ⟨er9, rfl⟩ := hp
      rw [er9]
      try dsimp only [List.nil_append]
      refine g_iload C dL_law_393 1 rfl ?_
      refine g_icmp_eq (tgt := 400) C dL_law_395 (by decide) (fun c1 => ?_) (fun c1 => absurd e1 c1)
      refine g_iload C dL_law_400 1 rfl ?_
      refine g_if_ne (tgt := 417) C dL_law_402 (by decide) (fun c2 => ?_) (fun c2 => absurd c2 (by decide))
      refine g_goto (tgt := 2215) C dL_law_417 (by decide) ?_
      refine g_lv (lv' := [(0, .ref b), (1, .ref (Ad 0 0)), (2, .ref (Ad 40 0)), (3, .ref (Ad 90 0)), (4, .int i)]) [2, 3, 4, 5, 6] rfl ?_
      refine g_widen (k := cells + (kc ν - kc ν) + 1) (n := slots + (ks ν - ks ν) + 6) (by omega) (by omega) ?_
      exact kk Ad (mn_rfl _) (kp_rfl _ _)
    · exact cd_nil ec
noncomputable def s_pass (w : Nat) (μ : MP) (ν : NC) (a : AS) (x1 : Int32) : Option ((MP × NC) × AS) := (f_X8_pass w μ ν x1).bind fun r => (f_X9_pass w a x1).bind fun q => (f_X9_thrown w q.1).bind fun t => lwq true [(2, 1)] μ ν (r.1, r.2) q t
set_option maxHeartbeats 4000000 in
set_option maxRecDepth 100000 in
theorem w_pass {p : Program} {l : Launch} {e : Env} {s : State} {m : MethodId} {args : Array Value} {below : List Frame} {meth : Method} {c : Code} {D : va_G} {E : Nat → ClassId} {A : Nat → Prop} {Q : State → Prop} {B : Nat × (Nat → Nat)} {a30 a31 : Nat} {μ : MP} {ν : NC} {a : AS} {Ad : Nat → Nat → Nat} {w : Nat} {b L : Nat} {xs : Nat → Int32} {cells slots : Nat} (C : cx p s m args meth c D E A cL_law 7 "TradeLineLaw") (hEv : eV a30 a31 B A s s.heap) (hN : vN s) (hl : l.stackTraces = false) (hI : lwI ν) (h3 : Ad 30 0 = a30 ∧ Ad 31 0 = a31) (hX : va_X b L xs s s.heap) (hbl : b < s.heap.size) (hbA : ¬ A b) {i x1 : Int32} (q1 : vp_in (i + 1) L ∧ xs (i + 1).toNatClampNeg = x1) {S : (MP × NC) × AS} (h : s_pass w μ ν a x1 = some S) (hf : cells + (kc S.1.2 - kc ν) + 1 ≤ 299000 ∧ slots + (ks S.1.2 - ks ν) + 6 ≤ 3090000) (kk : ∀ A1, mn ν S.1.2 → kp ν Ad A1 → G p l e room_1 s m args below meth c D E A 7 Q (zS S.1.1 S.1.2 S.2 A1) [] (cells + (kc S.1.2 - kc ν) + 1) (slots + (ks S.1.2 - ks ν) + 6) 2215 [(0, .ref b), (1, .ref (A1 0 0)), (2, .ref (A1 40 0)), (3, .ref (A1 90 0)), (4, .int i)] []) : G p l e room_1 s m args below meth c D E A 7 Q (zS μ ν a Ad) [] (cells) (slots) 420 [(0, .ref b), (1, .ref (Ad 0 0)), (2, .ref (Ad 40 0)), (3, .ref (Ad 90 0)), (4, .int i)] [] := by
  unfold s_pass at h
  obtain ⟨r, hr, h⟩ := bind_of h
  obtain ⟨q, hq, h⟩ := bind_of h
  obtain ⟨t, ht, h⟩ := bind_of h
  rcases lwq_t h with ⟨e0, e1, e2, rfl⟩ | ⟨ec, rfl⟩
  · replace e0 : r.1 = 0 := e0
    have hf1 : cells + (kc r.2.1.2 - kc ν) + 1 ≤ 299000 := hf.1
    have hf2 : slots + (ks r.2.1.2 - ks ν) + 6 ≤ 3090000 := hf.2
    refine g_aload_n C dL_law_420 rfl 1 rfl ?_
    refine g_aload_n C dL_law_421 rfl 0 rfl ?_
    refine g_iload C dL_law_422 4 rfl ?_
    refine g_iconst (v := 1) C dL_law_424 (by decide) ?_
    refine g_iadd C dL_law_425 ?_
    refine g_ialdX C hX hbl hbA q1.1 dL_law_426 ?_
    rw [q1.2]
    refine g_aload_n C dL_law_427 rfl 3 rfl ?_
    refine g_cSh (n := 3) (exr := []) C hEv hN h3 [_, _, _] _ rfl rfl [] rfl rfl (fun sz => r_L_pass l B μ ν a Ad w x1 r.2 (thr0 hr e0) hI.1 hI.2.1 D E sz) rfl gh_pass gw_0 gw_1012 gw_1013 ⟨by decide +kernel, by decide +kernel, by decide +kernel⟩ ⟨rfl, rfl⟩ ⟨Nat.le_of_ble_eq_true rfl, Nat.le_of_ble_eq_true rfl⟩ (Nat.le_of_ble_eq_true rfl) dL_law_428 (rm_hf (by omega) (by omega)) (fun r8 u hp hx => ?_)
    obtain ⟨er8, A1, rfl, hkp⟩ := hp
    rw [er8]
    try dsimp only [List.nil_append]
    have hm : mn ν r.2.1.2 := m_X8_pass (thr0 hr e0)
    have hI1 := lwI_mn hI hm
    rw [show Ad 0 0 = A1 0 0 from (hkp.1 0 0 rfl hI.1).symm, show Ad 40 0 = A1 40 0 from (hkp.1 40 0 rfl hI.2.2.1).symm, show Ad 90 0 = A1 90 0 from (hkp.1 90 0 rfl hI.2.1.1).symm]
    refine g_istore (lv' := [(5, .int 0), (0, .ref b), (1, .ref (A1 0 0)), (2, .ref (A1 40 0)), (3, .ref (A1 90 0)), (4, .int i)]) C dL_law_431 (by decide) rfl ?_
    refine g_aload_n C dL_law_433 rfl 3 rfl ?_
    refine g_aload_n C dL_law_434 rfl 1 rfl ?_
    refine g_iload C dL_law_435 5 rfl ?_
    refine g_iconst (v := 1) C dL_law_437 (by decide) ?_
    refine g_iadd C dL_law_438 ?_
    refine g_ialdX C hX hbl hbA q1.1 dL_law_439 ?_
    rw [q1.2]
    refine g_cVi (n := 1) (exc := []) (exr := []) C [_] _ rfl rfl [] [] rfl rfl rfl rfl (fun _ _ h => absurd h (by simp)) (fun _ h => absurd h (by simp)) (fun _ h => absurd h (by simp)) (fun sz => zk_pass l (up3 r.2.1.1.1 90 0 0 r.2.2, r.2.1.1.2) r.2.1.2 a A1 hI1.2.2 w x1 q hq D E sz) rfl gw_1583 gw_9 gw_1580 gw_1581 gw_1582 ⟨by decide +kernel, by decide +kernel, by decide +kernel⟩ ⟨rfl, rfl⟩ ⟨Nat.le_of_ble_eq_true rfl, Nat.le_of_ble_eq_true rfl⟩ (rcvT ⟨hI1.2.2.1, fun e => absurd e (by decide)⟩ rfl rfl rfl) (Nat.le_of_ble_eq_true rfl) dL_law_440 (rm_hf (by omega) (by omega)) (fun r9 u hp hx => ?_)
    obtain ⟨er9, rfl⟩ := hp
    rw [er9]
    try dsimp only [List.nil_append]
    refine g_istore (lv' := [(6, .int q.2), (5, .int 0), (0, .ref b), (1, .ref (A1 0 0)), (2, .ref (A1 40 0)), (3, .ref (A1 90 0)), (4, .int i)]) C dL_law_443 (by decide) rfl ?_
    refine g_aload_n C dL_law_445 rfl 4 rfl ?_
    refine g_cVi (n := 0) (exc := []) (exr := []) C [] _ rfl rfl [] [] rfl rfl rfl rfl (fun _ _ h => absurd h (by simp)) (fun _ h => absurd h (by simp)) (fun _ h => absurd h (by simp)) (fun sz => zk_thrown l (up3 r.2.1.1.1 90 0 0 r.2.2, r.2.1.1.2) r.2.1.2 q.1 A1 hI1.2.2 w  t ht D E sz) rfl gw_1468 gw_9 gw_1465 gw_1466 gw_1467 ⟨by decide +kernel, by decide +kernel, by decide +kernel⟩ ⟨rfl, rfl⟩ ⟨Nat.le_of_ble_eq_true rfl, Nat.le_of_ble_eq_true rfl⟩ (rcvT ⟨hI1.2.2.1, fun e => absurd e (by decide)⟩ rfl rfl rfl) (Nat.le_of_ble_eq_true rfl) dL_law_446 (rm_hf (by omega) (by omega)) (fun r9 u hp hx => ?_)
    obtain ⟨er9, rfl⟩ := hp
    rw [er9]
    try dsimp only [List.nil_append]
    refine g_iload C dL_law_449 1 rfl ?_
    refine g_icmp_eq (tgt := 456) C dL_law_451 (by decide) (fun c1 => ?_) (fun c1 => absurd e1 c1)
    refine g_iload C dL_law_456 1 rfl ?_
    refine g_if_ne (tgt := 473) C dL_law_458 (by decide) (fun c2 => absurd rfl c2) (fun c2 => ?_)
    refine g_aload_n C dL_law_461 rfl 5 rfl ?_
    refine g_iconst (v := 0) C dL_law_462 (by decide) ?_
    refine g_lald (μ := (up3 r.2.1.1.1 90 0 0 r.2.2, r.2.1.1.2)) (ν := r.2.1.2) (a := q.1) (Ad := A1) C rfl hI1.2.1 dL_law_463 ?_
    refine g_iload C dL_law_464 0 rfl ?_
    refine g_i2l C dL_law_466 rfl ?_
    refine g_lcmp C dL_law_467 (fun r7 e7 => ?_)
    refine g_if_eq (tgt := 473) C dL_law_468 (by decide) (fun c3 => ?_) (fun c3 => absurd (e7.mpr (congrArg Int32.toInt64 (show up3 r.2.1.1.1 90 0 0 r.2.2 90 0 0 = _ from (up3_90 _ _).trans e2))) c3)
    refine g_goto (tgt := 2215) C dL_law_473 (by decide) ?_
    refine g_lv (lv' := [(0, .ref b), (1, .ref (A1 0 0)), (2, .ref (A1 40 0)), (3, .ref (A1 90 0)), (4, .int i)]) [2, 3, 4, 5, 6] rfl ?_
    refine g_widen (k := cells + (kc r.2.1.2 - kc ν) + 1) (n := slots + (ks r.2.1.2 - ks ν) + 6) (by omega) (by omega) ?_
    exact kk A1 hm hkp
  · rcases cd_cons ec with ⟨e0, e1⟩ | ec
    · have hf1 : cells + (kc ν - kc ν) + 1 ≤ 299000 := hf.1
      have hf2 : slots + (ks ν - ks ν) + 6 ≤ 3090000 := hf.2
      refine g_aload_n C dL_law_420 rfl 1 rfl ?_
      refine g_aload_n C dL_law_421 rfl 0 rfl ?_
      refine g_iload C dL_law_422 4 rfl ?_
      refine g_iconst (v := 1) C dL_law_424 (by decide) ?_
      refine g_iadd C dL_law_425 ?_
      refine g_ialdX C hX hbl hbA q1.1 dL_law_426 ?_
      rw [q1.2]
      refine g_aload_n C dL_law_427 rfl 3 rfl ?_
      refine g_cSh (n := 3) (exr := []) C hEv hN h3 [_, _, _] _ rfl rfl [] rfl rfl (fun sz => e2_L_pass l hl B μ ν a Ad w x1 r.2 (thrS hr e0) hI.1 hI.2.1 D E sz) rfl gh_pass gw_0 gw_1012 gw_1013 ⟨by decide +kernel, by decide +kernel, by decide +kernel⟩ ⟨rfl, rfl⟩ ⟨Nat.le_of_ble_eq_true rfl, Nat.le_of_ble_eq_true rfl⟩ (Nat.le_of_ble_eq_true rfl) dL_law_428 (rm_hf (by omega) (by omega)) (fun r8 u hp hx => ?_)
      obtain ⟨er8, rfl⟩ := hp
      rw [er8]
      try dsimp only [List.nil_append]
      refine g_istore (lv' := [(5, .int 1), (0, .ref b), (1, .ref (Ad 0 0)), (2, .ref (Ad 40 0)), (3, .ref (Ad 90 0)), (4, .int i)]) C dL_law_431 (by decide) rfl ?_
      refine g_aload_n C dL_law_433 rfl 3 rfl ?_
      refine g_aload_n C dL_law_434 rfl 1 rfl ?_
      refine g_iload C dL_law_435 5 rfl ?_
      refine g_iconst (v := 1) C dL_law_437 (by decide) ?_
      refine g_iadd C dL_law_438 ?_
      refine g_ialdX C hX hbl hbA q1.1 dL_law_439 ?_
      rw [q1.2]
      refine g_cVi (n := 1) (exc := []) (exr := []) C [_] _ rfl rfl [] [] rfl rfl rfl rfl (fun _ _ h => absurd h (by simp)) (fun _ h => absurd h (by simp)) (fun _ h => absurd h (by simp)) (fun sz => zk_pass l μ ν a Ad hI.2.2 w x1 q hq D E sz) rfl gw_1583 gw_9 gw_1580 gw_1581 gw_1582 ⟨by decide +kernel, by decide +kernel, by decide +kernel⟩ ⟨rfl, rfl⟩ ⟨Nat.le_of_ble_eq_true rfl, Nat.le_of_ble_eq_true rfl⟩ (rcvT ⟨hI.2.2.1, fun e => absurd e (by decide)⟩ rfl rfl rfl) (Nat.le_of_ble_eq_true rfl) dL_law_440 (rm_hf (by omega) (by omega)) (fun r9 u hp hx => ?_)
      obtain ⟨er9, rfl⟩ := hp
      rw [er9]
      try dsimp only [List.nil_append]
      refine g_istore (lv' := [(6, .int q.2), (5, .int 1), (0, .ref b), (1, .ref (Ad 0 0)), (2, .ref (Ad 40 0)), (3, .ref (Ad 90 0)), (4, .int i)]) C dL_law_443 (by decide) rfl ?_
      refine g_aload_n C dL_law_445 rfl 4 rfl ?_
      refine g_cVi (n := 0) (exc := []) (exr := []) C [] _ rfl rfl [] [] rfl rfl rfl rfl (fun _ _ h => absurd h (by simp)) (fun _ h => absurd h (by simp)) (fun _ h => absurd h (by simp)) (fun sz => zk_thrown l μ ν q.1 Ad hI.2.2 w  t ht D E sz) rfl gw_1468 gw_9 gw_1465 gw_1466 gw_1467 ⟨by decide +kernel, by decide +kernel, by decide +kernel⟩ ⟨rfl, rfl⟩ ⟨Nat.le_of_ble_eq_true rfl, Nat.le_of_ble_eq_true rfl⟩ (rcvT ⟨hI.2.2.1, fun e => absurd e (by decide)⟩ rfl rfl rfl) (Nat.le_of_ble_eq_true rfl) dL_law_446 (rm_hf (by omega) (by omega)) (fun r9 u hp hx => ?_)
      obtain ⟨er9, rfl⟩ := hp
      rw [er9]
      try dsimp only [List.nil_append]
      refine g_iload C dL_law_449 1 rfl ?_
      refine g_icmp_eq (tgt := 456) C dL_law_451 (by decide) (fun c1 => ?_) (fun c1 => absurd e1 c1)
      refine g_iload C dL_law_456 1 rfl ?_
      refine g_if_ne (tgt := 473) C dL_law_458 (by decide) (fun c2 => ?_) (fun c2 => absurd c2 (by decide))
      refine g_goto (tgt := 2215) C dL_law_473 (by decide) ?_
      refine g_lv (lv' := [(0, .ref b), (1, .ref (Ad 0 0)), (2, .ref (Ad 40 0)), (3, .ref (Ad 90 0)), (4, .int i)]) [2, 3, 4, 5, 6] rfl ?_
      refine g_widen (k := cells + (kc ν - kc ν) + 1) (n := slots + (ks ν - ks ν) + 6) (by omega) (by omega) ?_
      exact kk Ad (mn_rfl _) (kp_rfl _ _)
    · exact cd_nil ec
noncomputable def s_isUp (w : Nat) (μ : MP) (ν : NC) (a : AS) : Option ((MP × NC) × AS) := (f_X8_isUp w μ ν).bind fun r => (f_X9_isUp w a).bind fun q => if r = q.2 then some ((μ, ν), q.1) else none
set_option maxHeartbeats 4000000 in
set_option maxRecDepth 100000 in
theorem w_isUp {p : Program} {l : Launch} {e : Env} {s : State} {m : MethodId} {args : Array Value} {below : List Frame} {meth : Method} {c : Code} {D : va_G} {E : Nat → ClassId} {A : Nat → Prop} {Q : State → Prop} {B : Nat × (Nat → Nat)} {a30 a31 : Nat} {μ : MP} {ν : NC} {a : AS} {Ad : Nat → Nat → Nat} {w : Nat} {b L : Nat} {xs : Nat → Int32} {cells slots : Nat} (C : cx p s m args meth c D E A cL_law 7 "TradeLineLaw") (hEv : eV a30 a31 B A s s.heap) (hN : vN s) (hl : l.stackTraces = false) (hI : lwI ν) (h3 : Ad 30 0 = a30 ∧ Ad 31 0 = a31) (hX : va_X b L xs s s.heap) (hbl : b < s.heap.size) (hbA : ¬ A b) {i : Int32} {S : (MP × NC) × AS} (h : s_isUp w μ ν a = some S) (hf : cells + (kc S.1.2 - kc ν) + 1 ≤ 299000 ∧ slots + (ks S.1.2 - ks ν) + 6 ≤ 3090000) (kk : ∀ A1, mn ν S.1.2 → kp ν Ad A1 → G p l e room_1 s m args below meth c D E A 7 Q (zS S.1.1 S.1.2 S.2 A1) [] (cells + (kc S.1.2 - kc ν) + 1) (slots + (ks S.1.2 - ks ν) + 6) 2215 [(0, .ref b), (1, .ref (A1 0 0)), (2, .ref (A1 40 0)), (3, .ref (A1 90 0)), (4, .int i)] []) : G p l e room_1 s m args below meth c D E A 7 Q (zS μ ν a Ad) [] (cells) (slots) 476 [(0, .ref b), (1, .ref (Ad 0 0)), (2, .ref (Ad 40 0)), (3, .ref (Ad 90 0)), (4, .int i)] [] := by
  unfold s_isUp at h
  obtain ⟨r, hr, h⟩ := bind_of h
  obtain ⟨q, hq, h⟩ := bind_of h
  by_cases he : r = q.2
  · rw [if_pos he] at h
    obtain rfl := Option.some.inj h
    have hf1 : cells + (kc ν - kc ν) + 1 ≤ 299000 := hf.1
    have hf2 : slots + (ks ν - ks ν) + 6 ≤ 3090000 := hf.2
    refine g_aload_n C dL_law_476 rfl 1 rfl ?_
    refine g_cVi (n := 0) (exc := []) (exr := []) C [] _ rfl rfl [] [] rfl rfl rfl rfl (fun _ _ h => absurd h (by simp)) (fun _ h => absurd h (by simp)) (fun _ h => absurd h (by simp)) (fun sz => c_X8_isUp l μ ν a Ad w r hr D E sz) rfl gw_208 gw_1 gw_205 gw_206 gw_207 ⟨by decide +kernel, by decide +kernel, by decide +kernel⟩ ⟨rfl, rfl⟩ ⟨Nat.le_of_ble_eq_true rfl, Nat.le_of_ble_eq_true rfl⟩ (rcvT ⟨hI.1, fun e => absurd e (by decide)⟩ rfl rfl rfl) (Nat.le_of_ble_eq_true rfl) dL_law_477 (rm_hf (by omega) (by omega)) (fun r9 u hp hx => ?_)
    obtain ⟨er9, rfl⟩ := hp
    rw [er9]
    try dsimp only [List.nil_append]
    refine g_aload_n C dL_law_480 rfl 2 rfl ?_
    refine g_cVi (n := 0) (exc := []) (exr := []) C [] _ rfl rfl [] [] rfl rfl rfl rfl (fun _ _ h => absurd h (by simp)) (fun _ h => absurd h (by simp)) (fun _ h => absurd h (by simp)) (fun sz => zk_isUp l μ ν a Ad hI.2.2 w  q hq D E sz) rfl gw_1591 gw_9 gw_1588 gw_1589 gw_1590 ⟨by decide +kernel, by decide +kernel, by decide +kernel⟩ ⟨rfl, rfl⟩ ⟨Nat.le_of_ble_eq_true rfl, Nat.le_of_ble_eq_true rfl⟩ (rcvT ⟨hI.2.2.1, fun e => absurd e (by decide)⟩ rfl rfl rfl) (Nat.le_of_ble_eq_true rfl) dL_law_481 (rm_hf (by omega) (by omega)) (fun r9 u hp hx => ?_)
    obtain ⟨er9, rfl⟩ := hp
    rw [er9]
    try dsimp only [List.nil_append]
    refine g_icmp_eq (tgt := 2215) C dL_law_484 (by decide) (fun c1 => ?_) (fun c1 => absurd he c1)
    refine g_widen (k := cells + (kc ν - kc ν) + 1) (n := slots + (ks ν - ks ν) + 6) (by omega) (by omega) ?_
    exact kk Ad (mn_rfl _) (kp_rfl _ _)
  · rw [if_neg he] at h; exact absurd h (by simp)
noncomputable def s_isOn (w : Nat) (μ : MP) (ν : NC) (a : AS) (x1 : Int32) : Option ((MP × NC) × AS) := (f_X8_isOn w μ ν x1).bind fun r => (f_X9_isOn w a x1).bind fun q => (f_X9_thrown w q.1).bind fun t => lwq true [(1, 1)] μ ν (r.1, ((μ, ν), nz r.2)) (q.1, nz q.2) t
set_option maxHeartbeats 4000000 in
set_option maxRecDepth 100000 in
theorem w_isOn {p : Program} {l : Launch} {e : Env} {s : State} {m : MethodId} {args : Array Value} {below : List Frame} {meth : Method} {c : Code} {D : va_G} {E : Nat → ClassId} {A : Nat → Prop} {Q : State → Prop} {B : Nat × (Nat → Nat)} {a30 a31 : Nat} {μ : MP} {ν : NC} {a : AS} {Ad : Nat → Nat → Nat} {w : Nat} {b L : Nat} {xs : Nat → Int32} {cells slots : Nat} (C : cx p s m args meth c D E A cL_law 7 "TradeLineLaw") (hEv : eV a30 a31 B A s s.heap) (hN : vN s) (hl : l.stackTraces = false) (hI : lwI ν) (h3 : Ad 30 0 = a30 ∧ Ad 31 0 = a31) (hX : va_X b L xs s s.heap) (hbl : b < s.heap.size) (hbA : ¬ A b) {i x1 : Int32} (q1 : vp_in (i + 1) L ∧ xs (i + 1).toNatClampNeg = x1) {S : (MP × NC) × AS} (h : s_isOn w μ ν a x1 = some S) (hf : cells + (kc S.1.2 - kc ν) + 1 ≤ 299000 ∧ slots + (ks S.1.2 - ks ν) + 6 ≤ 3090000) (kk : ∀ A1, mn ν S.1.2 → kp ν Ad A1 → G p l e room_1 s m args below meth c D E A 7 Q (zS S.1.1 S.1.2 S.2 A1) [] (cells + (kc S.1.2 - kc ν) + 1) (slots + (ks S.1.2 - ks ν) + 6) 2215 [(0, .ref b), (1, .ref (A1 0 0)), (2, .ref (A1 40 0)), (3, .ref (A1 90 0)), (4, .int i)] []) : G p l e room_1 s m args below meth c D E A 7 Q (zS μ ν a Ad) [] (cells) (slots) 489 [(0, .ref b), (1, .ref (Ad 0 0)), (2, .ref (Ad 40 0)), (3, .ref (Ad 90 0)), (4, .int i)] [] := by
  unfold s_isOn at h
  obtain ⟨r, hr, h⟩ := bind_of h
  obtain ⟨q, hq, h⟩ := bind_of h
  obtain ⟨t, ht, h⟩ := bind_of h
  rcases lwq_t h with ⟨e0, e1, e2, rfl⟩ | ⟨ec, rfl⟩
  · replace e0 : r.1 = 0 := e0
    have hf1 : cells + (kc ν - kc ν) + 1 ≤ 299000 := hf.1
    have hf2 : slots + (ks ν - ks ν) + 6 ≤ 3090000 := hf.2
    refine g_aload_n C dL_law_489 rfl 1 rfl ?_
    refine g_aload_n C dL_law_490 rfl 0 rfl ?_
    refine g_iload C dL_law_491 4 rfl ?_
    refine g_iconst (v := 1) C dL_law_493 (by decide) ?_
    refine g_iadd C dL_law_494 ?_
    refine g_ialdX C hX hbl hbA q1.1 dL_law_495 ?_
    rw [q1.2]
    refine g_aload_n C dL_law_496 rfl 3 rfl ?_
    refine g_cSh (n := 3) (exr := []) C hEv hN h3 [_, _, _] _ rfl rfl [] rfl rfl (fun sz => r_L_isOn l B μ ν a Ad w x1 r.2 (thr0 hr e0) hI.1 hI.2.1 D E sz) rfl gh_isOn gw_0 gw_1024 gw_1025 ⟨by decide +kernel, by decide +kernel, by decide +kernel⟩ ⟨rfl, rfl⟩ ⟨Nat.le_of_ble_eq_true rfl, Nat.le_of_ble_eq_true rfl⟩ (Nat.le_of_ble_eq_true rfl) dL_law_497 (rm_hf (by omega) (by omega)) (fun r8 u hp hx => ?_)
    obtain ⟨er8, rfl⟩ := hp
    rw [er8]
    try dsimp only [List.nil_append]
    refine g_istore (lv' := [(5, .int 0), (0, .ref b), (1, .ref (Ad 0 0)), (2, .ref (Ad 40 0)), (3, .ref (Ad 90 0)), (4, .int i)]) C dL_law_500 (by decide) rfl ?_
    refine g_aload_n C dL_law_502 rfl 3 rfl ?_
    refine g_aload_n C dL_law_503 rfl 1 rfl ?_
    refine g_iload C dL_law_504 5 rfl ?_
    refine g_iconst (v := 1) C dL_law_506 (by decide) ?_
    refine g_iadd C dL_law_507 ?_
    refine g_ialdX C hX hbl hbA q1.1 dL_law_508 ?_
    rw [q1.2]
    refine g_cVi (n := 1) (exc := []) (exr := []) C [_] _ rfl rfl [] [] rfl rfl rfl rfl (fun _ _ h => absurd h (by simp)) (fun _ h => absurd h (by simp)) (fun _ h => absurd h (by simp)) (fun sz => zk_isOn l (up3 μ.1 90 0 0 (nz r.2), μ.2) ν a Ad hI.2.2 w x1 q hq D E sz) rfl gw_1595 gw_9 gw_1592 gw_1593 gw_1594 ⟨by decide +kernel, by decide +kernel, by decide +kernel⟩ ⟨rfl, rfl⟩ ⟨Nat.le_of_ble_eq_true rfl, Nat.le_of_ble_eq_true rfl⟩ (rcvT ⟨hI.2.2.1, fun e => absurd e (by decide)⟩ rfl rfl rfl) (Nat.le_of_ble_eq_true rfl) dL_law_509 (rm_hf (by omega) (by omega)) (fun r9 u hp hx => ?_)
    obtain ⟨er9, rfl⟩ := hp
    rw [er9]
    try dsimp only [List.nil_append]
    refine g_istore (lv' := [(6, .int q.2), (5, .int 0), (0, .ref b), (1, .ref (Ad 0 0)), (2, .ref (Ad 40 0)), (3, .ref (Ad 90 0)), (4, .int i)]) C dL_law_512 (by decide) rfl ?_
    refine g_aload_n C dL_law_514 rfl 4 rfl ?_
    refine g_cVi (n := 0) (exc := []) (exr := []) C [] _ rfl rfl [] [] rfl rfl rfl rfl (fun _ _ h => absurd h (by simp)) (fun _ h => absurd h (by simp)) (fun _ h => absurd h (by simp)) (fun sz => zk_thrown l (up3 μ.1 90 0 0 (nz r.2), μ.2) ν q.1 Ad hI.2.2 w  t ht D E sz) rfl gw_1468 gw_9 gw_1465 gw_1466 gw_1467 ⟨by decide +kernel, by decide +kernel, by decide +kernel⟩ ⟨rfl, rfl⟩ ⟨Nat.le_of_ble_eq_true rfl, Nat.le_of_ble_eq_true rfl⟩ (rcvT ⟨hI.2.2.1, fun e => absurd e (by decide)⟩ rfl rfl rfl) (Nat.le_of_ble_eq_true rfl) dL_law_515 (rm_hf (by omega) (by omega)) (fun r9 u hp hx => ?_)
    obtain ⟨er9, rfl⟩ := hp
    rw [er9]
    try dsimp only [List.nil_append]
    refine g_iload C dL_law_518 1 rfl ?_
    refine g_icmp_eq (tgt := 525) C dL_law_520 (by decide) (fun c1 => ?_) (fun c1 => absurd e1 c1)
    refine g_iload C dL_law_525 1 rfl ?_
    refine g_if_ne (tgt := 549) C dL_law_527 (by decide) (fun c2 => absurd rfl c2) (fun c2 => ?_)
    refine g_aload_n C dL_law_530 rfl 5 rfl ?_
    refine g_iconst (v := 0) C dL_law_531 (by decide) ?_
    refine g_lald (μ := (up3 μ.1 90 0 0 (nz r.2), μ.2)) (ν := ν) (a := q.1) (Ad := Ad) C rfl hI.2.1 dL_law_532 ?_
    refine g_iload C dL_law_533 0 rfl ?_
    refine g_nzl C dL_law_535 dL_law_538 dL_law_539 dL_law_542 ?_
    refine g_lcmp C dL_law_543 (fun r7 e7 => ?_)
    refine g_if_eq (tgt := 549) C dL_law_544 (by decide) (fun c3 => ?_) (fun c3 => absurd (e7.mpr (congrArg Int32.toInt64 (show up3 μ.1 90 0 0 (nz r.2) 90 0 0 = _ from (up3_90 _ _).trans e2))) c3)
    refine g_goto (tgt := 2215) C dL_law_549 (by decide) ?_
    refine g_lv (lv' := [(0, .ref b), (1, .ref (Ad 0 0)), (2, .ref (Ad 40 0)), (3, .ref (Ad 90 0)), (4, .int i)]) [2, 3, 4, 5, 6] rfl ?_
    refine g_widen (k := cells + (kc ν - kc ν) + 1) (n := slots + (ks ν - ks ν) + 6) (by omega) (by omega) ?_
    exact kk Ad (mn_rfl _) (kp_rfl _ _)
  · rcases cd_cons ec with ⟨e0, e1⟩ | ec
    · have hf1 : cells + (kc ν - kc ν) + 1 ≤ 299000 := hf.1
      have hf2 : slots + (ks ν - ks ν) + 6 ≤ 3090000 := hf.2
      refine g_aload_n C dL_law_489 rfl 1 rfl ?_
      refine g_aload_n C dL_law_490 rfl 0 rfl ?_
      refine g_iload C dL_law_491 4 rfl ?_
      refine g_iconst (v := 1) C dL_law_493 (by decide) ?_
      refine g_iadd C dL_law_494 ?_
      refine g_ialdX C hX hbl hbA q1.1 dL_law_495 ?_
      rw [q1.2]
      refine g_aload_n C dL_law_496 rfl 3 rfl ?_
      refine g_cSh (n := 3) (exr := []) C hEv hN h3 [_, _, _] _ rfl rfl [] rfl rfl (fun sz => e1_L_isOn l hl B μ ν a Ad w x1 r.2 (thrS hr e0) hI.1 hI.2.1 D E sz) rfl gh_isOn gw_0 gw_1024 gw_1025 ⟨by decide +kernel, by decide +kernel, by decide +kernel⟩ ⟨rfl, rfl⟩ ⟨Nat.le_of_ble_eq_true rfl, Nat.le_of_ble_eq_true rfl⟩ (Nat.le_of_ble_eq_true rfl) dL_law_497 (rm_hf (by omega) (by omega)) (fun r8 u hp hx => ?_)
      obtain ⟨er8, rfl⟩ := hp
      rw [er8]
      try dsimp only [List.nil_append]
      refine g_istore (lv' := [(5, .int 1), (0, .ref b), (1, .ref (Ad 0 0)), (2, .ref (Ad 40 0)), (3, .ref (Ad 90 0)), (4, .int i)]) C dL_law_500 (by decide) rfl ?_
      refine g_aload_n C dL_law_502 rfl 3 rfl ?_
      refine g_aload_n C dL_law_503 rfl 1 rfl ?_
      refine g_iload C dL_law_504 5 rfl ?_
      refine g_iconst (v := 1) C dL_law_506 (by decide) ?_
      refine g_iadd C dL_law_507 ?_
      refine g_ialdX C hX hbl hbA q1.1 dL_law_508 ?_
      rw [q1.2]
      refine g_cVi (n := 1) (exc := []) (exr := []) C [_] _ rfl rfl [] [] rfl rfl rfl rfl (fun _ _ h => absurd h (by simp)) (fun _ h => absurd h (by simp)) (fun _ h => absurd h (by simp)) (fun sz => zk_isOn l μ ν a Ad hI.2.2 w x1 q hq D E sz) rfl gw_1595 gw_9 gw_1592 gw_1593 gw_1594 ⟨by decide +kernel, by decide +kernel, by decide +kernel⟩ ⟨rfl, rfl⟩ ⟨Nat.le_of_ble_eq_true rfl, Nat.le_of_ble_eq_true rfl⟩ (rcvT ⟨hI.2.2.1, fun e => absurd e (by decide)⟩ rfl rfl rfl) (Nat.le_of_ble_eq_true rfl) dL_law_509 (rm_hf (by omega) (by omega)) (fun r9 u hp hx => ?_)
      obtain ⟨er9, rfl⟩ := hp
      rw [er9]
      try dsimp only [List.nil_append]
      refine g_istore (lv' := [(6, .int q.2), (5, .int 1), (0, .ref b), (1, .ref (Ad 0 0)), (2, .ref (Ad 40 0)), (3, .ref (Ad 90 0)), (4, .int i)]) C dL_law_512 (by decide) rfl ?_
      refine g_aload_n C dL_law_514 rfl 4 rfl ?_
      refine g_cVi (n := 0) (exc := []) (exr := []) C [] _ rfl rfl [] [] rfl rfl rfl rfl (fun _ _ h => absurd h (by simp)) (fun _ h => absurd h (by simp)) (fun _ h => absurd h (by simp)) (fun sz => zk_thrown l μ ν q.1 Ad hI.2.2 w  t ht D E sz) rfl gw_1468 gw_9 gw_1465 gw_1466 gw_1467 ⟨by decide +kernel, by decide +kernel, by decide +kernel⟩ ⟨rfl, rfl⟩ ⟨Nat.le_of_ble_eq_true rfl, Nat.le_of_ble_eq_true rfl⟩ (rcvT ⟨hI.2.2.1, fun e => absurd e (by decide)⟩ rfl rfl rfl) (Nat.le_of_ble_eq_true rfl) dL_law_515 (rm_hf (by omega) (by omega)) (fun r9 u hp hx => ?_)
      obtain ⟨er9, rfl⟩ := hp
      rw [er9]
      try dsimp only [List.nil_append]
      refine g_iload C dL_law_518 1 rfl ?_
      refine g_icmp_eq (tgt := 525) C dL_law_520 (by decide) (fun c1 => ?_) (fun c1 => absurd e1 c1)
      refine g_iload C dL_law_525 1 rfl ?_
      refine g_if_ne (tgt := 549) C dL_law_527 (by decide) (fun c2 => ?_) (fun c2 => absurd c2 (by decide))
      refine g_goto (tgt := 2215) C dL_law_549 (by decide) ?_
      refine g_lv (lv' := [(0, .ref b), (1, .ref (Ad 0 0)), (2, .ref (Ad 40 0)), (3, .ref (Ad 90 0)), (4, .int i)]) [2, 3, 4, 5, 6] rfl ?_
      refine g_widen (k := cells + (kc ν - kc ν) + 1) (n := slots + (ks ν - ks ν) + 6) (by omega) (by omega) ?_
      exact kk Ad (mn_rfl _) (kp_rfl _ _)
    · exact cd_nil ec
noncomputable def s_onWay (w : Nat) (μ : MP) (ν : NC) (a : AS) (x1 : Int32) : Option ((MP × NC) × AS) := (f_X8_onWay w μ ν x1).bind fun r => (f_X9_onWay w a x1).bind fun q => (f_X9_thrown w q.1).bind fun t => lwq true [(1, 1)] μ ν (r.1, ((μ, ν), r.2)) q t
set_option maxHeartbeats 4000000 in
set_option maxRecDepth 100000 in
theorem w_onWay {p : Program} {l : Launch} {e : Env} {s : State} {m : MethodId} {args : Array Value} {below : List Frame} {meth : Method} {c : Code} {D : va_G} {E : Nat → ClassId} {A : Nat → Prop} {Q : State → Prop} {B : Nat × (Nat → Nat)} {a30 a31 : Nat} {μ : MP} {ν : NC} {a : AS} {Ad : Nat → Nat → Nat} {w : Nat} {b L : Nat} {xs : Nat → Int32} {cells slots : Nat} (C : cx p s m args meth c D E A cL_law 7 "TradeLineLaw") (hEv : eV a30 a31 B A s s.heap) (hN : vN s) (hl : l.stackTraces = false) (hI : lwI ν) (h3 : Ad 30 0 = a30 ∧ Ad 31 0 = a31) (hX : va_X b L xs s s.heap) (hbl : b < s.heap.size) (hbA : ¬ A b) {i x1 : Int32} (q1 : vp_in (i + 1) L ∧ xs (i + 1).toNatClampNeg = x1) {S : (MP × NC) × AS} (h : s_onWay w μ ν a x1 = some S) (hf : cells + (kc S.1.2 - kc ν) + 1 ≤ 299000 ∧ slots + (ks S.1.2 - ks ν) + 6 ≤ 3090000) (kk : ∀ A1, mn ν S.1.2 → kp ν Ad A1 → G p l e room_1 s m args below meth c D E A 7 Q (zS S.1.1 S.1.2 S.2 A1) [] (cells + (kc S.1.2 - kc ν) + 1) (slots + (ks S.1.2 - ks ν) + 6) 2215 [(0, .ref b), (1, .ref (A1 0 0)), (2, .ref (A1 40 0)), (3, .ref (A1 90 0)), (4, .int i)] []) : G p l e room_1 s m args below meth c D E A 7 Q (zS μ ν a Ad) [] (cells) (slots) 552 [(0, .ref b), (1, .ref (Ad 0 0)), (2, .ref (Ad 40 0)), (3, .ref (Ad 90 0)), (4, .int i)] [] := by
  unfold s_onWay at h
  obtain ⟨r, hr, h⟩ := bind_of h
  obtain ⟨q, hq, h⟩ := bind_of h
  obtain ⟨t, ht, h⟩ := bind_of h
  rcases lwq_t h with ⟨e0, e1, e2, rfl⟩ | ⟨ec, rfl⟩
  · replace e0 : r.1 = 0 := e0
    have hf1 : cells + (kc ν - kc ν) + 1 ≤ 299000 := hf.1
    have hf2 : slots + (ks ν - ks ν) + 6 ≤ 3090000 := hf.2
    refine g_aload_n C dL_law_552 rfl 1 rfl ?_
    refine g_aload_n C dL_law_553 rfl 0 rfl ?_
    refine g_iload C dL_law_554 4 rfl ?_
    refine g_iconst (v := 1) C dL_law_556 (by decide) ?_
    refine g_iadd C dL_law_557 ?_
    refine g_ialdX C hX hbl hbA q1.1 dL_law_558 ?_
    rw [q1.2]
    refine g_aload_n C dL_law_559 rfl 3 rfl ?_
    refine g_cSh (n := 3) (exr := []) C hEv hN h3 [_, _, _] _ rfl rfl [] rfl rfl (fun sz => r_L_onWay l B μ ν a Ad w x1 r.2 (thr0 hr e0) hI.1 hI.2.1 D E sz) rfl gh_onWay gw_0 gw_1031 gw_1032 ⟨by decide +kernel, by decide +kernel, by decide +kernel⟩ ⟨rfl, rfl⟩ ⟨Nat.le_of_ble_eq_true rfl, Nat.le_of_ble_eq_true rfl⟩ (Nat.le_of_ble_eq_true rfl) dL_law_560 (rm_hf (by omega) (by omega)) (fun r8 u hp hx => ?_)
    obtain ⟨er8, rfl⟩ := hp
    rw [er8]
    try dsimp only [List.nil_append]
    refine g_istore (lv' := [(5, .int 0), (0, .ref b), (1, .ref (Ad 0 0)), (2, .ref (Ad 40 0)), (3, .ref (Ad 90 0)), (4, .int i)]) C dL_law_563 (by decide) rfl ?_
    refine g_aload_n C dL_law_565 rfl 3 rfl ?_
    refine g_aload_n C dL_law_566 rfl 1 rfl ?_
    refine g_iload C dL_law_567 5 rfl ?_
    refine g_iconst (v := 1) C dL_law_569 (by decide) ?_
    refine g_iadd C dL_law_570 ?_
    refine g_ialdX C hX hbl hbA q1.1 dL_law_571 ?_
    rw [q1.2]
    refine g_cVi (n := 1) (exc := []) (exr := []) C [_] _ rfl rfl [] [] rfl rfl rfl rfl (fun _ _ h => absurd h (by simp)) (fun _ h => absurd h (by simp)) (fun _ h => absurd h (by simp)) (fun sz => zk_onWay l (up3 μ.1 90 0 0 r.2, μ.2) ν a Ad hI.2.2 w x1 q hq D E sz) rfl gw_1603 gw_9 gw_1600 gw_1601 gw_1602 ⟨by decide +kernel, by decide +kernel, by decide +kernel⟩ ⟨rfl, rfl⟩ ⟨Nat.le_of_ble_eq_true rfl, Nat.le_of_ble_eq_true rfl⟩ (rcvT ⟨hI.2.2.1, fun e => absurd e (by decide)⟩ rfl rfl rfl) (Nat.le_of_ble_eq_true rfl) dL_law_572 (rm_hf (by omega) (by omega)) (fun r9 u hp hx => ?_)
    obtain ⟨er9, rfl⟩ := hp
    rw [er9]
    try dsimp only [List.nil_append]
    refine g_istore (lv' := [(6, .int q.2), (5, .int 0), (0, .ref b), (1, .ref (Ad 0 0)), (2, .ref (Ad 40 0)), (3, .ref (Ad 90 0)), (4, .int i)]) C dL_law_575 (by decide) rfl ?_
    refine g_aload_n C dL_law_577 rfl 4 rfl ?_
    refine g_cVi (n := 0) (exc := []) (exr := []) C [] _ rfl rfl [] [] rfl rfl rfl rfl (fun _ _ h => absurd h (by simp)) (fun _ h => absurd h (by simp)) (fun _ h => absurd h (by simp)) (fun sz => zk_thrown l (up3 μ.1 90 0 0 r.2, μ.2) ν q.1 Ad hI.2.2 w  t ht D E sz) rfl gw_1468 gw_9 gw_1465 gw_1466 gw_1467 ⟨by decide +kernel, by decide +kernel, by decide +kernel⟩ ⟨rfl, rfl⟩ ⟨Nat.le_of_ble_eq_true rfl, Nat.le_of_ble_eq_true rfl⟩ (rcvT ⟨hI.2.2.1, fun e => absurd e (by decide)⟩ rfl rfl rfl) (Nat.le_of_ble_eq_true rfl) dL_law_578 (rm_hf (by omega) (by omega)) (fun r9 u hp hx => ?_)
    obtain ⟨er9, rfl⟩ := hp
    rw [er9]
    try dsimp only [List.nil_append]
    refine g_iload C dL_law_581 1 rfl ?_
    refine g_icmp_eq (tgt := 588) C dL_law_583 (by decide) (fun c1 => ?_) (fun c1 => absurd e1 c1)
    refine g_iload C dL_law_588 1 rfl ?_
    refine g_if_ne (tgt := 605) C dL_law_590 (by decide) (fun c2 => absurd rfl c2) (fun c2 => ?_)
    refine g_aload_n C dL_law_593 rfl 5 rfl ?_
    refine g_iconst (v := 0) C dL_law_594 (by decide) ?_
    refine g_lald (μ := (up3 μ.1 90 0 0 r.2, μ.2)) (ν := ν) (a := q.1) (Ad := Ad) C rfl hI.2.1 dL_law_595 ?_
    refine g_iload C dL_law_596 0 rfl ?_
    refine g_i2l C dL_law_598 rfl ?_
    refine g_lcmp C dL_law_599 (fun r7 e7 => ?_)
    refine g_if_eq (tgt := 605) C dL_law_600 (by decide) (fun c3 => ?_) (fun c3 => absurd (e7.mpr (congrArg Int32.toInt64 (show up3 μ.1 90 0 0 r.2 90 0 0 = _ from (up3_90 _ _).trans e2))) c3)
    refine g_goto (tgt := 2215) C dL_law_605 (by decide) ?_
    refine g_lv (lv' := [(0, .ref b), (1, .ref (Ad 0 0)), (2, .ref (Ad 40 0)), (3, .ref (Ad 90 0)), (4, .int i)]) [2, 3, 4, 5, 6] rfl ?_
    refine g_widen (k := cells + (kc ν - kc ν) + 1) (n := slots + (ks ν - ks ν) + 6) (by omega) (by omega) ?_
    exact kk Ad (mn_rfl _) (kp_rfl _ _)
  · rcases cd_cons ec with ⟨e0, e1⟩ | ec
    · have hf1 : cells + (kc ν - kc ν) + 1 ≤ 299000 := hf.1
      have hf2 : slots + (ks ν - ks ν) + 6 ≤ 3090000 := hf.2
      refine g_aload_n C dL_law_552 rfl 1 rfl ?_
      refine g_aload_n C dL_law_553 rfl 0 rfl ?_
      refine g_iload C dL_law_554 4 rfl ?_
      refine g_iconst (v := 1) C dL_law_556 (by decide) ?_
      refine g_iadd C dL_law_557 ?_
      refine g_ialdX C hX hbl hbA q1.1 dL_law_558 ?_
      rw [q1.2]
      refine g_aload_n C dL_law_559 rfl 3 rfl ?_
      refine g_cSh (n := 3) (exr := []) C hEv hN h3 [_, _, _] _ rfl rfl [] rfl rfl (fun sz => e1_L_onWay l hl B μ ν a Ad w x1 r.2 (thrS hr e0) hI.1 hI.2.1 D E sz) rfl gh_onWay gw_0 gw_1031 gw_1032 ⟨by decide +kernel, by decide +kernel, by decide +kernel⟩ ⟨rfl, rfl⟩ ⟨Nat.le_of_ble_eq_true rfl, Nat.le_of_ble_eq_true rfl⟩ (Nat.le_of_ble_eq_true rfl) dL_law_560 (rm_hf (by omega) (by omega)) (fun r8 u hp hx => ?_)
      obtain ⟨er8, rfl⟩ := hp
      rw [er8]
      try dsimp only [List.nil_append]
      refine g_istore (lv' := [(5, .int 1), (0, .ref b), (1, .ref (Ad 0 0)), (2, .ref (Ad 40 0)), (3, .ref (Ad 90 0)), (4, .int i)]) C dL_law_563 (by decide) rfl ?_
      refine g_aload_n C dL_law_565 rfl 3 rfl ?_
      refine g_aload_n C dL_law_566 rfl 1 rfl ?_
      refine g_iload C dL_law_567 5 rfl ?_
      refine g_iconst (v := 1) C dL_law_569 (by decide) ?_
      refine g_iadd C dL_law_570 ?_
      refine g_ialdX C hX hbl hbA q1.1 dL_law_571 ?_
      rw [q1.2]
      refine g_cVi (n := 1) (exc := []) (exr := []) C [_] _ rfl rfl [] [] rfl rfl rfl rfl (fun _ _ h => absurd h (by simp)) (fun _ h => absurd h (by simp)) (fun _ h => absurd h (by simp)) (fun sz => zk_onWay l μ ν a Ad hI.2.2 w x1 q hq D E sz) rfl gw_1603 gw_9 gw_1600 gw_1601 gw_1602 ⟨by decide +kernel, by decide +kernel, by decide +kernel⟩ ⟨rfl, rfl⟩ ⟨Nat.le_of_ble_eq_true rfl, Nat.le_of_ble_eq_true rfl⟩ (rcvT ⟨hI.2.2.1, fun e => absurd e (by decide)⟩ rfl rfl rfl) (Nat.le_of_ble_eq_true rfl) dL_law_572 (rm_hf (by omega) (by omega)) (fun r9 u hp hx => ?_)
      obtain ⟨er9, rfl⟩ := hp
      rw [er9]
      try dsimp only [List.nil_append]
      refine g_istore (lv' := [(6, .int q.2), (5, .int 1), (0, .ref b), (1, .ref (Ad 0 0)), (2, .ref (Ad 40 0)), (3, .ref (Ad 90 0)), (4, .int i)]) C dL_law_575 (by decide) rfl ?_
      refine g_aload_n C dL_law_577 rfl 4 rfl ?_
      refine g_cVi (n := 0) (exc := []) (exr := []) C [] _ rfl rfl [] [] rfl rfl rfl rfl (fun _ _ h => absurd h (by simp)) (fun _ h => absurd h (by simp)) (fun _ h => absurd h (by simp)) (fun sz => zk_thrown l μ ν q.1 Ad hI.2.2 w  t ht D E sz) rfl gw_1468 gw_9 gw_1465 gw_1466 gw_1467 ⟨by decide +kernel, by decide +kernel, by decide +kernel⟩ ⟨rfl, rfl⟩ ⟨Nat.le_of_ble_eq_true rfl, Nat.le_of_ble_eq_true rfl⟩ (rcvT ⟨hI.2.2.1, fun e => absurd e (by decide)⟩ rfl rfl rfl) (Nat.le_of_ble_eq_true rfl) dL_law_578 (rm_hf (by omega) (by omega)) (fun r9 u hp hx => ?_)
      obtain ⟨er9, rfl⟩ := hp
      rw [er9]
      try dsimp only [List.nil_append]
      refine g_iload C dL_law_581 1 rfl ?_
      refine g_icmp_eq (tgt := 588) C dL_law_583 (by decide) (fun c1 => ?_) (fun c1 => absurd e1 c1)
      refine g_iload C dL_law_588 1 rfl ?_
      refine g_if_ne (tgt := 605) C dL_law_590 (by decide) (fun c2 => ?_) (fun c2 => absurd c2 (by decide))
      refine g_goto (tgt := 2215) C dL_law_605 (by decide) ?_
      refine g_lv (lv' := [(0, .ref b), (1, .ref (Ad 0 0)), (2, .ref (Ad 40 0)), (3, .ref (Ad 90 0)), (4, .int i)]) [2, 3, 4, 5, 6] rfl ?_
      refine g_widen (k := cells + (kc ν - kc ν) + 1) (n := slots + (ks ν - ks ν) + 6) (by omega) (by omega) ?_
      exact kk Ad (mn_rfl _) (kp_rfl _ _)
    · exact cd_nil ec
noncomputable def s_sent (w : Nat) (μ : MP) (ν : NC) (a : AS) (x1 : Int32) : Option ((MP × NC) × AS) := (f_X8_sent w μ ν x1).bind fun r => (f_X9_sent w a x1).bind fun q => (f_X9_thrown w q.1).bind fun t => lwq true [(1, 1)] μ ν (r.1, ((μ, ν), r.2)) q t
set_option maxHeartbeats 4000000 in
set_option maxRecDepth 100000 in
theorem w_sent {p : Program} {l : Launch} {e : Env} {s : State} {m : MethodId} {args : Array Value} {below : List Frame} {meth : Method} {c : Code} {D : va_G} {E : Nat → ClassId} {A : Nat → Prop} {Q : State → Prop} {B : Nat × (Nat → Nat)} {a30 a31 : Nat} {μ : MP} {ν : NC} {a : AS} {Ad : Nat → Nat → Nat} {w : Nat} {b L : Nat} {xs : Nat → Int32} {cells slots : Nat} (C : cx p s m args meth c D E A cL_law 7 "TradeLineLaw") (hEv : eV a30 a31 B A s s.heap) (hN : vN s) (hl : l.stackTraces = false) (hI : lwI ν) (h3 : Ad 30 0 = a30 ∧ Ad 31 0 = a31) (hX : va_X b L xs s s.heap) (hbl : b < s.heap.size) (hbA : ¬ A b) {i x1 : Int32} (q1 : vp_in (i + 1) L ∧ xs (i + 1).toNatClampNeg = x1) {S : (MP × NC) × AS} (h : s_sent w μ ν a x1 = some S) (hf : cells + (kc S.1.2 - kc ν) + 1 ≤ 299000 ∧ slots + (ks S.1.2 - ks ν) + 6 ≤ 3090000) (kk : ∀ A1, mn ν S.1.2 → kp ν Ad A1 → G p l e room_1 s m args below meth c D E A 7 Q (zS S.1.1 S.1.2 S.2 A1) [] (cells + (kc S.1.2 - kc ν) + 1) (slots + (ks S.1.2 - ks ν) + 6) 2215 [(0, .ref b), (1, .ref (A1 0 0)), (2, .ref (A1 40 0)), (3, .ref (A1 90 0)), (4, .int i)] []) : G p l e room_1 s m args below meth c D E A 7 Q (zS μ ν a Ad) [] (cells) (slots) 608 [(0, .ref b), (1, .ref (Ad 0 0)), (2, .ref (Ad 40 0)), (3, .ref (Ad 90 0)), (4, .int i)] [] := by
  unfold s_sent at h
  obtain ⟨r, hr, h⟩ := bind_of h
  obtain ⟨q, hq, h⟩ := bind_of h
  obtain ⟨t, ht, h⟩ := bind_of h
  rcases lwq_t h with ⟨e0, e1, e2, rfl⟩ | ⟨ec, rfl⟩
  · replace e0 : r.1 = 0 := e0
    have hf1 : cells + (kc ν - kc ν) + 1 ≤ 299000 := hf.1
    have hf2 : slots + (ks ν - ks ν) + 6 ≤ 3090000 := hf.2
    refine g_aload_n C dL_law_608 rfl 1 rfl ?_
    refine g_aload_n C dL_law_609 rfl 0 rfl ?_
    refine g_iload C dL_law_610 4 rfl ?_
    refine g_iconst (v := 1) C dL_law_612 (by decide) ?_
    refine g_iadd C dL_law_613 ?_
    refine g_ialdX C hX hbl hbA q1.1 dL_law_614 ?_
    rw [q1.2]
    refine g_aload_n C dL_law_615 rfl 3 rfl ?_
    refine g_cSh (n := 3) (exr := []) C hEv hN h3 [_, _, _] _ rfl rfl [] rfl rfl (fun sz => r_L_sent l B μ ν a Ad w x1 r.2 (thr0 hr e0) hI.1 hI.2.1 D E sz) rfl gh_sent gw_0 gw_1038 gw_1039 ⟨by decide +kernel, by decide +kernel, by decide +kernel⟩ ⟨rfl, rfl⟩ ⟨Nat.le_of_ble_eq_true rfl, Nat.le_of_ble_eq_true rfl⟩ (Nat.le_of_ble_eq_true rfl) dL_law_616 (rm_hf (by omega) (by omega)) (fun r8 u hp hx => ?_)
    obtain ⟨er8, rfl⟩ := hp
    rw [er8]
    try dsimp only [List.nil_append]
    refine g_istore (lv' := [(5, .int 0), (0, .ref b), (1, .ref (Ad 0 0)), (2, .ref (Ad 40 0)), (3, .ref (Ad 90 0)), (4, .int i)]) C dL_law_619 (by decide) rfl ?_
    refine g_aload_n C dL_law_621 rfl 3 rfl ?_
    refine g_aload_n C dL_law_622 rfl 1 rfl ?_
    refine g_iload C dL_law_623 5 rfl ?_
    refine g_iconst (v := 1) C dL_law_625 (by decide) ?_
    refine g_iadd C dL_law_626 ?_
    refine g_ialdX C hX hbl hbA q1.1 dL_law_627 ?_
    rw [q1.2]
    refine g_cVi (n := 1) (exc := []) (exr := []) C [_] _ rfl rfl [] [] rfl rfl rfl rfl (fun _ _ h => absurd h (by simp)) (fun _ h => absurd h (by simp)) (fun _ h => absurd h (by simp)) (fun sz => zk_sent l (up3 μ.1 90 0 0 r.2, μ.2) ν a Ad hI.2.2 w x1 q hq D E sz) rfl gw_1607 gw_9 gw_1604 gw_1605 gw_1606 ⟨by decide +kernel, by decide +kernel, by decide +kernel⟩ ⟨rfl, rfl⟩ ⟨Nat.le_of_ble_eq_true rfl, Nat.le_of_ble_eq_true rfl⟩ (rcvT ⟨hI.2.2.1, fun e => absurd e (by decide)⟩ rfl rfl rfl) (Nat.le_of_ble_eq_true rfl) dL_law_628 (rm_hf (by omega) (by omega)) (fun r9 u hp hx => ?_)
    obtain ⟨er9, rfl⟩ := hp
    rw [er9]
    try dsimp only [List.nil_append]
    refine g_istore (lv' := [(6, .int q.2), (5, .int 0), (0, .ref b), (1, .ref (Ad 0 0)), (2, .ref (Ad 40 0)), (3, .ref (Ad 90 0)), (4, .int i)]) C dL_law_631 (by decide) rfl ?_
    refine g_aload_n C dL_law_633 rfl 4 rfl ?_
    refine g_cVi (n := 0) (exc := []) (exr := []) C [] _ rfl rfl [] [] rfl rfl rfl rfl (fun _ _ h => absurd h (by simp)) (fun _ h => absurd h (by simp)) (fun _ h => absurd h (by simp)) (fun sz => zk_thrown l (up3 μ.1 90 0 0 r.2, μ.2) ν q.1 Ad hI.2.2 w  t ht D E sz) rfl gw_1468 gw_9 gw_1465 gw_1466 gw_1467 ⟨by decide +kernel, by decide +kernel, by decide +kernel⟩ ⟨rfl, rfl⟩ ⟨Nat.le_of_ble_eq_true rfl, Nat.le_of_ble_eq_true rfl⟩ (rcvT ⟨hI.2.2.1, fun e => absurd e (by decide)⟩ rfl rfl rfl) (Nat.le_of_ble_eq_true rfl) dL_law_634 (rm_hf (by omega) (by omega)) (fun r9 u hp hx => ?_)
    obtain ⟨er9, rfl⟩ := hp
    rw [er9]
    try dsimp only [List.nil_append]
    refine g_iload C dL_law_637 1 rfl ?_
    refine g_icmp_eq (tgt := 644) C dL_law_639 (by decide) (fun c1 => ?_) (fun c1 => absurd e1 c1)
    refine g_iload C dL_law_644 1 rfl ?_
    refine g_if_ne (tgt := 661) C dL_law_646 (by decide) (fun c2 => absurd rfl c2) (fun c2 => ?_)
    refine g_aload_n C dL_law_649 rfl 5 rfl ?_
    refine g_iconst (v := 0) C dL_law_650 (by decide) ?_
    refine g_lald (μ := (up3 μ.1 90 0 0 r.2, μ.2)) (ν := ν) (a := q.1) (Ad := Ad) C rfl hI.2.1 dL_law_651 ?_
    refine g_iload C dL_law_652 0 rfl ?_
    refine g_i2l C dL_law_654 rfl ?_
    refine g_lcmp C dL_law_655 (fun r7 e7 => ?_)
    refine g_if_eq (tgt := 661) C dL_law_656 (by decide) (fun c3 => ?_) (fun c3 => absurd (e7.mpr (congrArg Int32.toInt64 (show up3 μ.1 90 0 0 r.2 90 0 0 = _ from (up3_90 _ _).trans e2))) c3)
    refine g_goto (tgt := 2215) C dL_law_661 (by decide) ?_
    refine g_lv (lv' := [(0, .ref b), (1, .ref (Ad 0 0)), (2, .ref (Ad 40 0)), (3, .ref (Ad 90 0)), (4, .int i)]) [2, 3, 4, 5, 6] rfl ?_
    refine g_widen (k := cells + (kc ν - kc ν) + 1) (n := slots + (ks ν - ks ν) + 6) (by omega) (by omega) ?_
    exact kk Ad (mn_rfl _) (kp_rfl _ _)
  · rcases cd_cons ec with ⟨e0, e1⟩ | ec
    · have hf1 : cells + (kc ν - kc ν) + 1 ≤ 299000 := hf.1
      have hf2 : slots + (ks ν - ks ν) + 6 ≤ 3090000 := hf.2
      refine g_aload_n C dL_law_608 rfl 1 rfl ?_
      refine g_aload_n C dL_law_609 rfl 0 rfl ?_
      refine g_iload C dL_law_610 4 rfl ?_
      refine g_iconst (v := 1) C dL_law_612 (by decide) ?_
      refine g_iadd C dL_law_613 ?_
      refine g_ialdX C hX hbl hbA q1.1 dL_law_614 ?_
      rw [q1.2]
      refine g_aload_n C dL_law_615 rfl 3 rfl ?_
      refine g_cSh (n := 3) (exr := []) C hEv hN h3 [_, _, _] _ rfl rfl [] rfl rfl (fun sz => e1_L_sent l hl B μ ν a Ad w x1 r.2 (thrS hr e0) hI.1 hI.2.1 D E sz) rfl gh_sent gw_0 gw_1038 gw_1039 ⟨by decide +kernel, by decide +kernel, by decide +kernel⟩ ⟨rfl, rfl⟩ ⟨Nat.le_of_ble_eq_true rfl, Nat.le_of_ble_eq_true rfl⟩ (Nat.le_of_ble_eq_true rfl) dL_law_616 (rm_hf (by omega) (by omega)) (fun r8 u hp hx => ?_)
      obtain ⟨er8, rfl⟩ := hp
      rw [er8]
      try dsimp only [List.nil_append]
      refine g_istore (lv' := [(5, .int 1), (0, .ref b), (1, .ref (Ad 0 0)), (2, .ref (Ad 40 0)), (3, .ref (Ad 90 0)), (4, .int i)]) C dL_law_619 (by decide) rfl ?_
      refine g_aload_n C dL_law_621 rfl 3 rfl ?_
      refine g_aload_n C dL_law_622 rfl 1 rfl ?_
      refine g_iload C dL_law_623 5 rfl ?_
      refine g_iconst (v := 1) C dL_law_625 (by decide) ?_
      refine g_iadd C dL_law_626 ?_
      refine g_ialdX C hX hbl hbA q1.1 dL_law_627 ?_
      rw [q1.2]
      refine g_cVi (n := 1) (exc := []) (exr := []) C [_] _ rfl rfl [] [] rfl rfl rfl rfl (fun _ _ h => absurd h (by simp)) (fun _ h => absurd h (by simp)) (fun _ h => absurd h (by simp)) (fun sz => zk_sent l μ ν a Ad hI.2.2 w x1 q hq D E sz) rfl gw_1607 gw_9 gw_1604 gw_1605 gw_1606 ⟨by decide +kernel, by decide +kernel, by decide +kernel⟩ ⟨rfl, rfl⟩ ⟨Nat.le_of_ble_eq_true rfl, Nat.le_of_ble_eq_true rfl⟩ (rcvT ⟨hI.2.2.1, fun e => absurd e (by decide)⟩ rfl rfl rfl) (Nat.le_of_ble_eq_true rfl) dL_law_628 (rm_hf (by omega) (by omega)) (fun r9 u hp hx => ?_)
      obtain ⟨er9, rfl⟩ := hp
      rw [er9]
      try dsimp only [List.nil_append]
      refine g_istore (lv' := [(6, .int q.2), (5, .int 1), (0, .ref b), (1, .ref (Ad 0 0)), (2, .ref (Ad 40 0)), (3, .ref (Ad 90 0)), (4, .int i)]) C dL_law_631 (by decide) rfl ?_
      refine g_aload_n C dL_law_633 rfl 4 rfl ?_
      refine g_cVi (n := 0) (exc := []) (exr := []) C [] _ rfl rfl [] [] rfl rfl rfl rfl (fun _ _ h => absurd h (by simp)) (fun _ h => absurd h (by simp)) (fun _ h => absurd h (by simp)) (fun sz => zk_thrown l μ ν q.1 Ad hI.2.2 w  t ht D E sz) rfl gw_1468 gw_9 gw_1465 gw_1466 gw_1467 ⟨by decide +kernel, by decide +kernel, by decide +kernel⟩ ⟨rfl, rfl⟩ ⟨Nat.le_of_ble_eq_true rfl, Nat.le_of_ble_eq_true rfl⟩ (rcvT ⟨hI.2.2.1, fun e => absurd e (by decide)⟩ rfl rfl rfl) (Nat.le_of_ble_eq_true rfl) dL_law_634 (rm_hf (by omega) (by omega)) (fun r9 u hp hx => ?_)
      obtain ⟨er9, rfl⟩ := hp
      rw [er9]
      try dsimp only [List.nil_append]
      refine g_iload C dL_law_637 1 rfl ?_
      refine g_icmp_eq (tgt := 644) C dL_law_639 (by decide) (fun c1 => ?_) (fun c1 => absurd e1 c1)
      refine g_iload C dL_law_644 1 rfl ?_
      refine g_if_ne (tgt := 661) C dL_law_646 (by decide) (fun c2 => ?_) (fun c2 => absurd c2 (by decide))
      refine g_goto (tgt := 2215) C dL_law_661 (by decide) ?_
      refine g_lv (lv' := [(0, .ref b), (1, .ref (Ad 0 0)), (2, .ref (Ad 40 0)), (3, .ref (Ad 90 0)), (4, .int i)]) [2, 3, 4, 5, 6] rfl ?_
      refine g_widen (k := cells + (kc ν - kc ν) + 1) (n := slots + (ks ν - ks ν) + 6) (by omega) (by omega) ?_
      exact kk Ad (mn_rfl _) (kp_rfl _ _)
    · exact cd_nil ec
