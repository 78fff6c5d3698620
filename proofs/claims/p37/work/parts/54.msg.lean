theorem Met_ofWF {l : Launch} {y : MethodName} {ws ws' : List Cond} {rm : Room} {Pc : Array Value → State → Prop} {Qc : Array Value → State → Outcome → State → Prop} {mc ms : Nat} {free : Addr → Prop} {cc : ByteArray} {maxL : Nat} {ret : Option FieldType}
    (hy : plainFor y = true) (hw : ws = Cond.code y cc maxL ret :: ws')
    (body : ∀ p e s m args below meth c s₁, BodyLoose p l y (headSpec ws rm) cc maxL ret e s m args below meth c s₁ → c.maxLocals = maxL → Pc args s →
      W p l e (headSpec ws rm).room s m args below meth c s.heap [] 0 0 (MQ below Qc args s mc ms free) (entryFrame m args maxL)) : Met l y ws rm Pc Qc mc ms free := by
  refine MetFree.of_bodySF (code := cc) (maxLocals := maxL) (ret := ret) hy ?_ ?_
  · intro args s m h hn
    obtain ⟨meth, c, h1, h2, h3, h4, h5, h6, -, -⟩ := Cond.code_spec hn (atoms_spec (ws := ws) h _ (by rw [hw]; exact List.mem_cons_self))
    exact ⟨meth, c, h1, h2, h3, h4, h5, h6⟩
  · intro p e s m args below meth c s₁ B hml hP _
    have hh0 : s₁.heap = s.heap := by rw [B.state]; rfl
    obtain ⟨t, a1, o, b1, b2, b3⟩ := body p e s m args below meth c s₁ B hml hP s₁ hh0 (Stand.of_body B)
    exact ⟨t, o, a1, b1, b2, ⟨b3.1, b3.2⟩⟩
section OfF
variable {l : Launch} {D : va_G} {E : Nat → ClassId} {cc : ByteArray} {own : String} {σ : RS} {ex : va_W}
theorem g_ofF {y : MethodName} {ws : List Cond} {rm : Room} {Qc : Array Value → State → Outcome → State → Prop} {mc ms sz : Nat} {wr : List Nat} {av : List Value} {maxL : Nat} {ret : Option FieldType} (hy : plainFor y = true) (hyo : y.cls = own) (hw : ws = Cond.code y cc maxL ret :: GT) (hle : (lg_sl av).length ≤ maxL)
    (body : ∀ p e s m (args : Array Value) below meth c, cx p s m args meth c D E (Aof σ wr s.heap.size) cc maxL own → meth.sig.returnType = ret → (meth.name = y.name) → s.heap.size = sz → args = av.toArray → (∀ q ∈ wr, Aof σ wr s.heap.size q) →
      G p l e rm s m args below meth c D E (Aof σ wr s.heap.size) maxL (MQ below Qc args s mc ms (Aof σ wr s.heap.size)) σ ex 0 0 0 (lv_args 0 av) []) : Met l y ws rm (cP D E sz σ ex av) Qc mc ms (Aof σ wr sz) := by
  refine Met_ofWF (cc := cc) (maxL := maxL) (ret := ret) hy hw ?_
  intro p e s m args below meth c s₁ B hml hv
  obtain ⟨rfl, hsz, hW, hK⟩ := hv
  have hown : s.vm.findClass own = some m.cls := by rw [← hyo]; exact findClass_of_methodNamed B.named
  have hA : ∀ q, s.heap.size ≤ q → Aof σ wr s.heap.size q := fun q h => Or.inr (Or.inr h)
  have hl := lv_entry av (n := maxL) hle
  rw [lg_entry_eq]
  generalize (lg_sl av ++ List.replicate (maxL - (lg_sl av).length) Slot.unset).toArray = ls at hl ⊢
  subst hsz
  exact body p e s m _ below meth c ⟨B.exec, B.bytes, hown, fun w h => atoms_spec (ws := ws) B.pre w (by rw [hw]; exact List.mem_cons_of_mem _ h), hml, B.notSynchronized, hK, hA⟩ B.returns (name_of_methodNamed B.named B.method).1 rfl rfl (fun q h => Or.inr (Or.inl h)) s.heap [] ls
    (wld_mono hW (fun k i hl h1 h2 _ => Or.inl ⟨k, i, hl, h1, h2, rfl⟩)) va_S.rf hl
end OfF
def fmd (x : Int32) : Int32 := if 0 ≤ (x ^^^ 256) then x - x / 256 * 256 else if x - x / 256 * 256 = 0 then x - x / 256 * 256 else x - x / 256 * 256 + 256
def sm (f : Nat → Int32) : Nat → Int32
  | 0 => 0
  | j + 1 => sm f j + f j
set_option maxHeartbeats 4000000 in
set_option maxRecDepth 100000 in
theorem k_fm (l : Launch) (σ : RS) (x : Int32) : ∀ D E sz, Met l yJ9_floorMod_7cf53 gwJ9_floorMod_7cf53 ({ frames := 0, cells := 0, slots := 0, locals := 0 } : Room) (cP D E sz σ [] [.int x, .int 256]) (cQ D E sz σ [] (pI (fun r u => r = fmd x ∧ u = (σ, [])))) (0) (0) (Aof σ [] sz) := by
  intro D E sz
  refine g_ofF (cc := cJ9_floorMod_7cf53) (maxL := 3) (ret := (some .int)) (own := "java/lang/Math") (by decide +kernel) rfl rfl (Nat.le_of_ble_eq_true rfl) ?_
  intro p e s m args below meth c C hr hin hz ha hwr
  refine g_iload_n C dJ9_floorMod_7cf53_0 rfl 0 rfl ?_
  refine g_iload_n C dJ9_floorMod_7cf53_1 rfl 1 rfl ?_
  refine g_irem C dJ9_floorMod_7cf53_2 (by decide) ?_
  refine g_topi (fun xx1 exx1 => ?_)
  refine g_istore_n (lv' := [(2, .int xx1), (0, .int x), (1, .int 256)]) C dJ9_floorMod_7cf53_3 rfl (by decide) rfl ?_
  refine g_iload_n C dJ9_floorMod_7cf53_4 rfl 1 rfl ?_
  refine g_iload_n C dJ9_floorMod_7cf53_5 rfl 2 rfl ?_
  refine g_ixor C dJ9_floorMod_7cf53_6 ?_
  refine g_if_ge (tgt := 18) C dJ9_floorMod_7cf53_7 (by decide) (fun c7 => ?_) (fun c7 => ?_)
  · skip
    refine g_iload_n C dJ9_floorMod_7cf53_18 rfl 0 rfl ?_
    exact g_iret C hr rfl hz (stq_rfl _) (⟨by subst exx1; unfold fmd; first | rw [if_pos c7] | rw [if_neg c7, if_pos c11] | rw [if_neg c7, if_neg c11], rfl⟩) (fun j x h => by simp at h) dJ9_floorMod_7cf53_19
  · skip
    refine g_iload_n C dJ9_floorMod_7cf53_10 rfl 0 rfl ?_
    refine g_if_eq (tgt := 18) C dJ9_floorMod_7cf53_11 (by decide) (fun c11 => ?_) (fun c11 => ?_)
    · skip
      refine g_iload_n C dJ9_floorMod_7cf53_18 rfl 0 rfl ?_
      exact g_iret C hr rfl hz (stq_rfl _) (⟨by subst exx1; unfold fmd; first | rw [if_pos c7] | rw [if_neg c7, if_pos c11] | rw [if_neg c7, if_neg c11], rfl⟩) (fun j x h => by simp at h) dJ9_floorMod_7cf53_19
    · skip
      refine g_iload_n C dJ9_floorMod_7cf53_14 rfl 0 rfl ?_
      refine g_iload_n C dJ9_floorMod_7cf53_15 rfl 2 rfl ?_
      refine g_iadd C dJ9_floorMod_7cf53_16 ?_
      exact g_iret C hr rfl hz (stq_rfl _) (⟨by subst exx1; unfold fmd; first | rw [if_pos c7] | rw [if_neg c7, if_pos c11] | rw [if_neg c7, if_neg c11], rfl⟩) (fun j x h => by simp at h) dJ9_floorMod_7cf53_17
set_option maxHeartbeats 4000000 in
set_option maxRecDepth 100000 in
/-- a longer copy of a row of ints -/
theorem k_copyOf_k (l : Launch) (σ : RS) (a0 n0 N : Nat) (f : Nat → Int32) (hlt : n0 < N) (hN : N ≤ 8388608) : ∀ D E sz, Met l yJ7_copyOf_59c91 gwJ7_copyOf_59c91 ({ frames := 1, cells := 1, slots := N, locals := 18 } : Room) (cP D E sz σ [(a0, .inl (E 0, n0, .inl f))] [.ref a0, .int (nI N)]) (cQ D E sz σ [a0] (pQ (fun r u => ∃ q, r = .ref q ∧ u = (σ, [(a0, .inl (E 0, n0, .inl f)), (q, .inl (E 0, N, .inl (va_cpy f (fun _ => 0) 0 0 n0)))])))) (1) (N) (Aof σ [a0] sz) := by
  intro D E sz
  refine g_of (cc := cJ7_copyOf_59c91) (maxL := 3) (ret := (some (.array .int))) (own := "java/util/Arrays") (by decide) rfl rfl (Nat.le_of_ble_eq_true rfl) ?_
  intro p e s m args below meth c C hr hin hz ha hwr
  refine g_iload_n C dJ7_copyOf_59c91_0 rfl 1 rfl ?_
  refine g_aload_n C dJ7_copyOf_59c91_1 rfl 0 rfl ?_
  refine g_alenL (t0 := 0) (v := nI n0) C 0 rfl rfl rfl dJ7_copyOf_59c91_2 ?_
  refine g_icmp_ne (tgt := 14) C dJ7_copyOf_59c91_3 (by decide) (fun c3 => ?_) (fun c3 => ?_)
  · skip
    refine g_iload_n C dJ7_copyOf_59c91_14 rfl 1 rfl ?_
    refine g_newa (atype := .int) (ty := .int) (t := 0) (N' := N) (a0 := (N, .inl (fun _ => 0))) C gw_95 rfl rfl (fun _ h => by cases h) (fun _ => rfl) (nI_pos (by omega)) (nI_clamp (by omega)) (by show N * 4 ≤ _; omega) (Nat.le_of_ble_eq_true rfl) (by show 0 + N ≤ N; omega) dJ7_copyOf_59c91_15 (fun q hq hqs => ?_)
    refine g_astore_n (lv' := [(2, .ref q), (0, .ref a0), (1, .int (nI N))]) C dJ7_copyOf_59c91_17 rfl (by decide) rfl ?_
    refine g_aload_n C dJ7_copyOf_59c91_18 rfl 1 rfl ?_
    refine g_iconst (v := 0) C dJ7_copyOf_59c91_19 (by decide) ?_
    refine g_aload_n C dJ7_copyOf_59c91_20 rfl 0 rfl ?_
    refine g_iconst (v := 0) C dJ7_copyOf_59c91_21 (by decide) ?_
    refine g_aload_n C dJ7_copyOf_59c91_22 rfl 1 rfl ?_
    refine g_alenL (t0 := 0) (v := nI n0) C 0 rfl rfl rfl dJ7_copyOf_59c91_23 ?_
    refine g_iload_n C dJ7_copyOf_59c91_24 rfl 2 rfl ?_
    refine g_mmin C gw_326 gw_327 gw_19 gw_328 (Nat.le_of_ble_eq_true rfl) (Nat.le_of_ble_eq_true rfl) (Nat.le_of_ble_eq_true rfl) (by show 0 + N ≤ N; omega) dJ7_copyOf_59c91_25 ?_
    rw [if_neg (nI_nlt (by omega) (by omega))]
    refine g_copyi (f := f) (n0 := n0) C gw_329 gw_331 gw_330 gw_20 (Or.inr ⟨0, rfl⟩) 1 rfl hq (by decide) (by decide) (nI_pos (by omega)) (by rw [sb_cl0, nI_clamp (by omega)]; omega) (by rw [sb_cl0, nI_clamp (by omega)]; omega) (Nat.le_of_ble_eq_true rfl) (Nat.le_of_ble_eq_true rfl) (ex' := [(a0, .inl (E 0, n0, .inl f)), (q, .inl (E 0, N, .inl (va_cpy f (fun _ => 0) 0 0 n0)))]) (by rw [sb_cl0, nI_clamp (by omega)]; rfl) dJ7_copyOf_59c91_28 ?_
    refine g_widen (k := 1) (n := N) (by omega) (by omega) ?_
    refine g_aload_n C dJ7_copyOf_59c91_31 rfl 0 rfl ?_
    exact g_aret C hr (Or.inr ⟨_, rfl⟩) (Or.inr ⟨_, rfl⟩) hz (stq_rfl _) (⟨q, rfl, rfl⟩) (fun j x h => by match j, h with | 0, h => cases h; exact Or.inl (List.mem_cons_self ..) | 1, h => cases h; exact Or.inr hqs) dJ7_copyOf_59c91_32
  · exact absurd c3 (fun h => by rw [nI_eq (by omega) (by omega)] at h; omega)
def msgH (kind number : Int32) : Nat → Int32 := (up1 (up1 (up1 (up1 (fun _ => 0) 0 35) 1 kind) 2 34) 3 number)
/-- the fields of a message, behind the sum's tag -/
def msgR (kind number : Int32) (nb : Nat) (fb : Nat → Int32) : Nat → Int32 := va_cpy fb (va_cpy (msgH kind number) (fun _ => 0) 0 0 4) 0 4 nb
def msgF (kind number : Int32) (nb : Nat) (fb : Nat → Int32) : Nat → Int32 := up1 (up1 (msgR kind number nb fb) (nb + 4) 10) (nb + 5) (fmd (sm (msgR kind number nb fb) (nb + 4)))
set_option maxHeartbeats 4000000 in
set_option maxRecDepth 100000 in
theorem lo_msg {p : Program} {l : Launch} {e : Env} {R : Room} {s : State} {m : MethodId} {args : Array Value} {below : List Frame} {meth : Method} {c : Code} {D : va_G} {E : Nat → ClassId} {A : Nat → Prop} {Q : State → Prop} {c0 s0 : Nat} (C : cx p s m args meth c D E A cX3_init 9 "TradeLine$Message") (σ : RS) (q0 qr N n6 : Nat) (f : Nat → Int32) (v0 v1 v3 : Value) (hN : N = n6 + 1) (h6 : 1 ≤ n6) (hN2 : N < 2 ^ 30) (kk : G p l e R s m args below meth c D E A 9 Q σ [(qr, .inl (E 0, N, .inl f)), (q0, .inr (6, [v0, v1, .ref qr, v3]))] c0 s0 113 [(8, .int (nI (n6 - 1))), (7, .int (sm f (n6 - 1))), (6, .int (nI n6)), (0, .ref q0)] []) : ∀ d j : Nat, j + d = n6 - 1 → G p l e R s m args below meth c D E A 9 Q σ [(qr, .inl (E 0, N, .inl f)), (q0, .inr (6, [v0, v1, .ref qr, v3]))] c0 s0 86 [(8, .int (nI j)), (7, .int (sm f j)), (6, .int (nI n6)), (0, .ref q0)] [] := by
  intro d
  induction d with
  | zero =>
    intro j hj
    obtain rfl : j = n6 - 1 := by omega
    refine g_iload C dX3_init_86 0 rfl ?_
    refine g_iload C dX3_init_88 2 rfl ?_
    refine g_iconst (v := 1) C dX3_init_90 (by decide) ?_
    refine g_isub C dX3_init_91 ?_
    rw [show nI n6 - 1 = nI (n6 - 1) by rw [show n6 = (n6 - 1) + 1 by omega, nI_pred]; rfl]
    refine g_icmp_ge (tgt := 113) C dX3_init_92 (by decide) (fun _ => kk) (fun h => absurd (Int32.le_refl _) h)
  | succ d ih =>
    intro j hj
    refine g_iload C dX3_init_86 0 rfl ?_
    refine g_iload C dX3_init_88 2 rfl ?_
    refine g_iconst (v := 1) C dX3_init_90 (by decide) ?_
    refine g_isub C dX3_init_91 ?_
    rw [show nI n6 - 1 = nI (n6 - 1) by rw [show n6 = (n6 - 1) + 1 by omega, nI_pred]; rfl]
    refine g_icmp_ge (tgt := 113) C dX3_init_92 (by decide) (fun h => absurd h (Int32.not_le.mpr ((nI_ltI (by omega) (by omega)).mpr (by omega)))) (fun _ => ?_)
    refine g_iload C dX3_init_95 1 rfl ?_
    refine g_aload_n C dX3_init_97 rfl 3 rfl ?_
    refine g_getL (ref := "TradeLine$Message") C 1 rfl rfl inGX3 2 (by decide) gw_340 (fun _ h => h) rfl dX3_init_98 ?_
    refine g_iload C dX3_init_101 0 rfl ?_
    refine g_ialdL C 0 rfl (vp_in_nI (show j < N by omega) (show N < 2 ^ 31 by omega)) dX3_init_103 ?_
    rw [nI_clamp (by omega)]
    refine g_iadd C dX3_init_104 ?_
    refine g_istore (lv' := [(7, .int (sm f (j + 1))), (8, .int (nI j)), (6, .int (nI n6)), (0, .ref q0)]) C dX3_init_105 (by decide) rfl ?_
    refine g_iinc (v := nI (j + 1)) (lv' := [(8, .int (nI (j + 1))), (7, .int (sm f (j + 1))), (6, .int (nI n6)), (0, .ref q0)]) C dX3_init_107 1 rfl (nI_1 j) (by decide) rfl ?_
    refine g_goto (tgt := 86) C dX3_init_110 (by decide) ?_
    exact ih (j + 1) (by omega)
set_option maxHeartbeats 4000000 in
set_option maxRecDepth 100000 in
/-- new Message -/
theorem k_msg_L (l : Launch) (σ : RS) (q0 qb nb : Nat) (fb : Nat → Int32) (kind number sentAt : Int32) (hnb : nb ≤ 4194304) : ∀ D E sz, Met l yX3_init gwX3_init ({ frames := 2, cells := 2, slots := (nb + 10), locals := 60 } : Room) (cP D E sz σ [(q0, .inr (6, [.int 0, .int 0, .null, .int 0])), (qb, .inl (E 0, nb, .inl fb))] [.ref q0, .int kind, .int number, .int sentAt, .ref qb]) (cQ D E sz σ [q0] (pV (fun u => ∃ qr, u = (σ, [(q0, .inr (6, [.int kind, .int sentAt, .ref qr, .int 0])), (qr, .inl (E 0, nb + 6, .inl (msgF kind number nb fb)))])))) (2) ((nb + 10)) (Aof σ [q0] sz) := by
  intro D E sz
  refine g_of (cc := cX3_init) (maxL := 9) (ret := none) (own := "TradeLine$Message") (by decide) rfl rfl (Nat.le_of_ble_eq_true rfl) ?_
  intro p e s m args below meth c C hr hin hz ha hwr
  refine g_lv (lv' := [(0, .ref q0), (1, .int kind), (2, .int number), (3, .int sentAt), (4, .ref qb)]) [0, 1, 2, 3, 4] rfl ?_
  refine g_aload_n C dX3_init_0 rfl 0 rfl ?_
  refine g_objInit C gw_315 gw_38 gw_39 (Nat.le_of_ble_eq_true rfl) (Nat.le_of_ble_eq_true rfl) dX3_init_1 ?_
  refine g_aload_n C dX3_init_4 rfl 0 rfl ?_
  refine g_iload_n C dX3_init_5 rfl 1 rfl ?_
  refine g_putLF (ref := "TradeLine$Message") C 0 rfl (hwr _ (List.mem_cons_self ..)) rfl inGX3 tyX3 tyX3_ok nmX3 0 (by decide) gw_336 (fun _ h => h) rfl hin rfl (tyX3_ok 0 (by decide)) rfl rfl (by simp) (ex' := [(q0, .inr (6, [.int kind, .int 0, .null, .int 0])), (qb, .inl (E 0, nb, .inl fb))]) rfl dX3_init_6 ?_
  refine g_aload_n C dX3_init_9 rfl 0 rfl ?_
  refine g_iload_n C dX3_init_10 rfl 3 rfl ?_
  refine g_putLF (ref := "TradeLine$Message") C 0 rfl (hwr _ (List.mem_cons_self ..)) rfl inGX3 tyX3 tyX3_ok nmX3 1 (by decide) gw_338 (fun _ h => h) rfl hin rfl (tyX3_ok 1 (by decide)) rfl rfl (by simp) (ex' := [(q0, .inr (6, [.int kind, .int sentAt, .null, .int 0])), (qb, .inl (E 0, nb, .inl fb))]) rfl dX3_init_11 ?_
  refine g_iconst (v := 4) C dX3_init_14 (by decide) ?_
  refine g_newa (atype := .int) (ty := .int) (t := 0) (N' := 4) (a0 := (4, .inl (fun _ => 0))) C gw_95 rfl rfl (fun _ h => by cases h) (fun _ => rfl) (by decide) (by decide) (by decide) (Nat.le_of_ble_eq_true rfl) (by show 0 + 4 ≤ nb + 10; omega) dX3_init_15 (fun qh hqh hqhs => ?_)
  refine g_dup C dX3_init_17 rfl ?_
  refine g_iconst (v := 0) C dX3_init_18 (by decide) ?_
  refine g_bipush (v := 35) C dX3_init_19 (by decide) ?_
  refine g_iastL C 2 rfl hqh (ixB_in rfl) (ex' := [(q0, .inr (6, [.int kind, .int sentAt, .null, .int 0])), (qb, .inl (E 0, nb, .inl fb)), (qh, .inl (E 0, 4, .inl (up1 (fun _ => 0) 0 35)))]) rfl dX3_init_21 ?_
  refine g_dup C dX3_init_22 rfl ?_
  refine g_iconst (v := 1) C dX3_init_23 (by decide) ?_
  refine g_iload_n C dX3_init_24 rfl 1 rfl ?_
  refine g_iastL C 2 rfl hqh (ixB_in rfl) (ex' := [(q0, .inr (6, [.int kind, .int sentAt, .null, .int 0])), (qb, .inl (E 0, nb, .inl fb)), (qh, .inl (E 0, 4, .inl (up1 (up1 (fun _ => 0) 0 35) 1 kind)))]) rfl dX3_init_25 ?_
  refine g_dup C dX3_init_26 rfl ?_
  refine g_iconst (v := 2) C dX3_init_27 (by decide) ?_
  refine g_bipush (v := 34) C dX3_init_28 (by decide) ?_
  refine g_iastL C 2 rfl hqh (ixB_in rfl) (ex' := [(q0, .inr (6, [.int kind, .int sentAt, .null, .int 0])), (qb, .inl (E 0, nb, .inl fb)), (qh, .inl (E 0, 4, .inl (up1 (up1 (up1 (fun _ => 0) 0 35) 1 kind) 2 34)))]) rfl dX3_init_30 ?_
  refine g_dup C dX3_init_31 rfl ?_
  refine g_iconst (v := 3) C dX3_init_32 (by decide) ?_
  refine g_iload_n C dX3_init_33 rfl 2 rfl ?_
  refine g_iastL C 2 rfl hqh (ixB_in rfl) (ex' := [(q0, .inr (6, [.int kind, .int sentAt, .null, .int 0])), (qb, .inl (E 0, nb, .inl fb)), (qh, .inl (E 0, 4, .inl (up1 (up1 (up1 (up1 (fun _ => 0) 0 35) 1 kind) 2 34) 3 number)))]) rfl dX3_init_34 ?_
  refine g_ex (ex' := [(q0, .inr (6, [.int kind, .int sentAt, .null, .int 0])), (qb, .inl (E 0, nb, .inl fb)), (qh, .inl (E 0, 4, .inl (msgH kind number)))]) [0, 1, 2] rfl rfl ?_
  refine g_astore (lv' := [(5, .ref qh), (0, .ref q0), (1, .int kind), (2, .int number), (3, .int sentAt), (4, .ref qb)]) C dX3_init_35 (by decide) rfl ?_
  refine g_aload_n C dX3_init_37 rfl 1 rfl ?_
  refine g_aload C dX3_init_38 0 rfl ?_
  refine g_aload C dX3_init_40 0 rfl ?_
  refine g_alenL (t0 := 0) (v := nI 4) C 2 rfl rfl rfl dX3_init_42 ?_
  refine g_aload C dX3_init_43 5 rfl ?_
  refine g_alenL (t0 := 0) (v := nI nb) C 1 rfl rfl rfl dX3_init_45 ?_
  refine g_iadd C dX3_init_46 ?_
  refine g_iconst (v := 2) C dX3_init_47 (by decide) ?_
  refine g_iadd C dX3_init_48 ?_
  rw [show nI 4 + nI nb + 2 = nI (nb + 6) by rw [nI_add, show (2 : Int32) = nI 2 from rfl, nI_add] <;> first | rfl | (congr 1; omega)]
  refine g_cSq (n := 2) (exc := [(qh, .inl (E 0, 4, .inl (msgH kind number)))]) (exr := [(q0, .inr (6, [.int kind, .int sentAt, .null, .int 0])), (qb, .inl (E 0, nb, .inl fb))]) C [_, _] _ rfl rfl [2] [0, 1] rfl rfl rfl rfl (by decide) (fun q h => by simp at h; exact ⟨0, _, by rw [h]; rfl⟩) (fun q h => by simp at h; rw [h]; exact hqh) (fun sz => k_copyOf_k l σ qh 4 (nb + 6) (msgH kind number) (by omega) (by omega) D E sz) rfl gw_318 gw_17 gw_316 gw_317 ⟨by decide +kernel, by decide +kernel, by decide +kernel⟩ ⟨rfl, rfl⟩ ⟨Nat.le_of_ble_eq_true rfl, Nat.le_of_ble_eq_true rfl⟩ (Nat.le_of_ble_eq_true rfl) dX3_init_49 ⟨by show 0 + 1 + 1 ≤ 2; omega, by show 0 + 4 + (nb + 6) ≤ nb + 10; omega⟩ (fun r u hp hx => ?_)
  obtain ⟨qr, rfl, rfl⟩ := hp
  have hqr : Aof σ [q0] s.heap.size qr := (hx 1 _ rfl).1
  have hqr2 : qr ∈ [qh] ∨ s.heap.size ≤ qr := (hx 1 _ rfl).2
  refine g_ex (ex' := [(qr, .inl (E 0, nb + 6, .inl (va_cpy (msgH kind number) (fun _ => 0) 0 0 4))), (q0, .inr (6, [.int kind, .int sentAt, .null, .int 0])), (qb, .inl (E 0, nb, .inl fb)), (qh, .inl (E 0, 4, .inl (msgH kind number)))]) [1, 2, 3, 0] rfl rfl ?_
  refine g_putLF (ref := "TradeLine$Message") C 1 rfl (hwr _ (List.mem_cons_self ..)) rfl inGX3 tyX3 tyX3_ok nmX3 2 (by decide) gw_340 (fun _ h => h) rfl hin rfl (tyX3_ok 2 (by decide)) rfl rfl (by simp) (ex' := [(qr, .inl (E 0, nb + 6, .inl (va_cpy (msgH kind number) (fun _ => 0) 0 0 4))), (q0, .inr (6, [.int kind, .int sentAt, .ref qr, .int 0])), (qb, .inl (E 0, nb, .inl fb)), (qh, .inl (E 0, 4, .inl (msgH kind number)))]) rfl dX3_init_52 ?_
  refine g_aload C dX3_init_55 5 rfl ?_
  refine g_iconst (v := 0) C dX3_init_57 (by decide) ?_
  refine g_aload_n C dX3_init_58 rfl 1 rfl ?_
  refine g_getL (ref := "TradeLine$Message") C 1 rfl rfl inGX3 2 (by decide) gw_340 (fun _ h => h) rfl dX3_init_59 ?_
  refine g_aload C dX3_init_62 0 rfl ?_
  refine g_alenL (t0 := 0) (v := nI 4) C 3 rfl rfl rfl dX3_init_64 ?_
  refine g_aload C dX3_init_65 5 rfl ?_
  refine g_alenL (t0 := 0) (v := nI nb) C 2 rfl rfl rfl dX3_init_67 ?_
  refine g_copyi (f := fb) (n0 := nb) C gw_332 gw_331 gw_330 gw_20 (Or.inr ⟨2, rfl⟩) 0 rfl hqr (by decide) (by decide) (nI_pos (by omega)) (by rw [sb_cl0, nI_clamp (by omega)]; omega) (by rw [nI_clamp (by omega), nI_clamp (by omega)]; omega) (Nat.le_of_ble_eq_true rfl) (Nat.le_of_ble_eq_true rfl) (ex' := [(qr, .inl (E 0, nb + 6, .inl (msgR kind number nb fb))), (q0, .inr (6, [.int kind, .int sentAt, .ref qr, .int 0])), (qb, .inl (E 0, nb, .inl fb)), (qh, .inl (E 0, 4, .inl (msgH kind number)))]) (by rw [sb_cl0, nI_clamp (by omega), nI_clamp (by omega)]; rfl) dX3_init_68 ?_
  refine g_aload_n C dX3_init_71 rfl 1 rfl ?_
  refine g_getL (ref := "TradeLine$Message") C 1 rfl rfl inGX3 2 (by decide) gw_340 (fun _ h => h) rfl dX3_init_72 ?_
  refine g_alenL (t0 := 0) (v := nI (nb + 6)) C 0 rfl rfl rfl dX3_init_75 ?_
  refine g_iconst (v := 1) C dX3_init_76 (by decide) ?_
  refine g_isub C dX3_init_77 ?_
  rw [show nI (nb + 6) - 1 = nI (nb + 5) from nI_pred (nb + 5)]
  refine g_istore (lv' := [(6, .int (nI (nb + 5))), (5, .ref qh), (0, .ref q0), (1, .int kind), (2, .int number), (3, .int sentAt), (4, .ref qb)]) C dX3_init_78 (by decide) rfl ?_
  refine g_iconst (v := 0) C dX3_init_80 (by decide) ?_
  refine g_istore (lv' := [(7, .int 0), (6, .int (nI (nb + 5))), (5, .ref qh), (0, .ref q0), (1, .int kind), (2, .int number), (3, .int sentAt), (4, .ref qb)]) C dX3_init_81 (by decide) rfl ?_
  refine g_iconst (v := 0) C dX3_init_83 (by decide) ?_
  refine g_istore (lv' := [(8, .int 0), (7, .int 0), (6, .int (nI (nb + 5))), (5, .ref qh), (0, .ref q0), (1, .int kind), (2, .int number), (3, .int sentAt), (4, .ref qb)]) C dX3_init_84 (by decide) rfl ?_
  refine g_lv (lv' := [(8, .int 0), (7, .int 0), (6, .int (nI (nb + 5))), (0, .ref q0)]) [0, 1, 2, 4] rfl ?_
  refine g_ex (ex' := [(qr, .inl (E 0, nb + 6, .inl (msgR kind number nb fb))), (q0, .inr (6, [.int kind, .int sentAt, .ref qr, .int 0]))]) [0, 1] rfl rfl ?_
  refine lo_msg C σ q0 qr (nb + 6) (nb + 5) (msgR kind number nb fb) _ _ _ rfl (by omega) (by omega) ?_ (nb + 4) 0 (by omega)
  rw [show nb + 5 - 1 = nb + 4 by omega]
  refine g_aload_n C dX3_init_113 rfl 3 rfl ?_
  refine g_getL (ref := "TradeLine$Message") C 1 rfl rfl inGX3 2 (by decide) gw_340 (fun _ h => h) rfl dX3_init_114 ?_
  refine g_iload C dX3_init_117 2 rfl ?_
  refine g_iconst (v := 1) C dX3_init_119 (by decide) ?_
  refine g_isub C dX3_init_120 ?_
  rw [show nI (nb + 5) - 1 = nI (nb + 4) from nI_pred (nb + 4)]
  refine g_bipush (v := 10) C dX3_init_121 (by decide) ?_
  refine g_iastL C 0 rfl hqr (vp_in_nI (show nb + 4 < nb + 6 by omega) (show nb + 6 < 2 ^ 31 by omega)) (ex' := [(qr, .inl (E 0, nb + 6, .inl (up1 (msgR kind number nb fb) (nb + 4) 10))), (q0, .inr (6, [.int kind, .int sentAt, .ref qr, .int 0]))]) (by rw [nI_clamp (by omega)]; rfl) dX3_init_123 ?_
  refine g_aload_n C dX3_init_124 rfl 3 rfl ?_
  refine g_getL (ref := "TradeLine$Message") C 1 rfl rfl inGX3 2 (by decide) gw_340 (fun _ h => h) rfl dX3_init_125 ?_
  refine g_iload C dX3_init_128 2 rfl ?_
  refine g_iload C dX3_init_130 1 rfl ?_
  refine g_sipush (v := 256) C dX3_init_132 (by decide) ?_
  refine g_cSi (n := 2) (exc := []) (exr := [(qr, .inl (E 0, nb + 6, .inl (up1 (msgR kind number nb fb) (nb + 4) 10))), (q0, .inr (6, [.int kind, .int sentAt, .ref qr, .int 0]))]) C [_, _] _ rfl rfl [] [0, 1] rfl rfl rfl rfl (fun _ h => by simp) (fun _ h => absurd h (by simp)) (fun _ h => absurd h (by simp)) (fun sz => k_fm l σ _ D E sz) rfl gw_335 gw_19 gw_333 gw_334 ⟨by decide +kernel, by decide +kernel, by decide +kernel⟩ ⟨rfl, rfl⟩ ⟨Nat.le_of_ble_eq_true rfl, Nat.le_of_ble_eq_true rfl⟩ (Nat.le_of_ble_eq_true rfl) dX3_init_135 ⟨by show 0 + 1 + 1 + 0 ≤ 2; omega, by show 0 + 4 + (nb + 6) + 0 ≤ nb + 10; omega⟩ (fun r u hp hx => ?_)
  obtain ⟨er, rfl⟩ := hp
  rw [er]
  try dsimp only [List.nil_append]
  refine g_iastL C 0 rfl hqr (vp_in_nI (show nb + 5 < nb + 6 by omega) (show nb + 6 < 2 ^ 31 by omega)) (ex' := [(qr, .inl (E 0, nb + 6, .inl (msgF kind number nb fb))), (q0, .inr (6, [.int kind, .int sentAt, .ref qr, .int 0]))]) (by rw [nI_clamp (by omega)]; rfl) dX3_init_138 ?_
  refine g_ex (ex' := [(q0, .inr (6, [.int kind, .int sentAt, .ref qr, .int 0])), (qr, .inl (E 0, nb + 6, .inl (msgF kind number nb fb)))]) [1, 0] rfl rfl ?_
  refine g_widen (k := 2) (n := nb + 10) (by omega) (by show 0 + 4 + (nb + 6) + 0 ≤ nb + 10; omega) ?_
  exact g_vret C hr hz (stq_rfl _) ⟨qr, rfl⟩ (fun j x h => by match j, h with | 0, h => cases h; exact Or.inl (List.mem_cons_self ..) | 1, h => cases h; exact hqr2.elim (fun h => by simp at h; rw [h]; exact Or.inr hqhs) Or.inr) dX3_init_139
set_option maxHeartbeats 4000000 in
set_option maxRecDepth 100000 in
/-- new Message -/
theorem k_msg_N (l : Launch) (σ : RS) (q0 : Nat) (kind number sentAt : Int32) (l30 : live σ 30 0) (h30 : rN σ 30 0 = 0) : ∀ D E sz, Met l yX3_init gwX3_init ({ frames := 2, cells := 2, slots := (0 + 10), locals := 60 } : Room) (cP D E sz σ [(q0, .inr (6, [.int 0, .int 0, .null, .int 0]))] [.ref q0, .int kind, .int number, .int sentAt, .ref (rA σ 30 0)]) (cQ D E sz σ [q0] (pV (fun u => ∃ qr, u = (σ, [(q0, .inr (6, [.int kind, .int sentAt, .ref qr, .int 0])), (qr, .inl (E 0, 0 + 6, .inl (msgF kind number 0 (rM σ 30 0))))])))) (2) ((0 + 10)) (Aof σ [q0] sz) := by
  intro D E sz
  refine g_of (cc := cX3_init) (maxL := 9) (ret := none) (own := "TradeLine$Message") (by decide) rfl rfl (Nat.le_of_ble_eq_true rfl) ?_
  intro p e s m args below meth c C hr hin hz ha hwr
  refine g_lv (lv' := [(0, .ref q0), (1, .int kind), (2, .int number), (3, .int sentAt), (4, .ref (rA σ 30 0))]) [0, 1, 2, 3, 4] rfl ?_
  refine g_aload_n C dX3_init_0 rfl 0 rfl ?_
  refine g_objInit C gw_315 gw_38 gw_39 (Nat.le_of_ble_eq_true rfl) (Nat.le_of_ble_eq_true rfl) dX3_init_1 ?_
  refine g_aload_n C dX3_init_4 rfl 0 rfl ?_
  refine g_iload_n C dX3_init_5 rfl 1 rfl ?_
  refine g_putLF (ref := "TradeLine$Message") C 0 rfl (hwr _ (List.mem_cons_self ..)) rfl inGX3 tyX3 tyX3_ok nmX3 0 (by decide) gw_336 (fun _ h => h) rfl hin rfl (tyX3_ok 0 (by decide)) rfl rfl (by simp) (ex' := [(q0, .inr (6, [.int kind, .int 0, .null, .int 0]))]) rfl dX3_init_6 ?_
  refine g_aload_n C dX3_init_9 rfl 0 rfl ?_
  refine g_iload_n C dX3_init_10 rfl 3 rfl ?_
  refine g_putLF (ref := "TradeLine$Message") C 0 rfl (hwr _ (List.mem_cons_self ..)) rfl inGX3 tyX3 tyX3_ok nmX3 1 (by decide) gw_338 (fun _ h => h) rfl hin rfl (tyX3_ok 1 (by decide)) rfl rfl (by simp) (ex' := [(q0, .inr (6, [.int kind, .int sentAt, .null, .int 0]))]) rfl dX3_init_11 ?_
  refine g_iconst (v := 4) C dX3_init_14 (by decide) ?_
  refine g_newa (atype := .int) (ty := .int) (t := 0) (N' := 4) (a0 := (4, .inl (fun _ => 0))) C gw_95 rfl rfl (fun _ h => by cases h) (fun _ => rfl) (by decide) (by decide) (by decide) (Nat.le_of_ble_eq_true rfl) (by show 0 + 4 ≤ 0 + 10; omega) dX3_init_15 (fun qh hqh hqhs => ?_)
  refine g_dup C dX3_init_17 rfl ?_
  refine g_iconst (v := 0) C dX3_init_18 (by decide) ?_
  refine g_bipush (v := 35) C dX3_init_19 (by decide) ?_
  refine g_iastL C 1 rfl hqh (ixB_in rfl) (ex' := [(q0, .inr (6, [.int kind, .int sentAt, .null, .int 0])), (qh, .inl (E 0, 4, .inl (up1 (fun _ => 0) 0 35)))]) rfl dX3_init_21 ?_
  refine g_dup C dX3_init_22 rfl ?_
  refine g_iconst (v := 1) C dX3_init_23 (by decide) ?_
  refine g_iload_n C dX3_init_24 rfl 1 rfl ?_
  refine g_iastL C 1 rfl hqh (ixB_in rfl) (ex' := [(q0, .inr (6, [.int kind, .int sentAt, .null, .int 0])), (qh, .inl (E 0, 4, .inl (up1 (up1 (fun _ => 0) 0 35) 1 kind)))]) rfl dX3_init_25 ?_
  refine g_dup C dX3_init_26 rfl ?_
  refine g_iconst (v := 2) C dX3_init_27 (by decide) ?_
  refine g_bipush (v := 34) C dX3_init_28 (by decide) ?_
  refine g_iastL C 1 rfl hqh (ixB_in rfl) (ex' := [(q0, .inr (6, [.int kind, .int sentAt, .null, .int 0])), (qh, .inl (E 0, 4, .inl (up1 (up1 (up1 (fun _ => 0) 0 35) 1 kind) 2 34)))]) rfl dX3_init_30 ?_
  refine g_dup C dX3_init_31 rfl ?_
  refine g_iconst (v := 3) C dX3_init_32 (by decide) ?_
  refine g_iload_n C dX3_init_33 rfl 2 rfl ?_
  refine g_iastL C 1 rfl hqh (ixB_in rfl) (ex' := [(q0, .inr (6, [.int kind, .int sentAt, .null, .int 0])), (qh, .inl (E 0, 4, .inl (up1 (up1 (up1 (up1 (fun _ => 0) 0 35) 1 kind) 2 34) 3 number)))]) rfl dX3_init_34 ?_
  refine g_ex (ex' := [(q0, .inr (6, [.int kind, .int sentAt, .null, .int 0])), (qh, .inl (E 0, 4, .inl (msgH kind number)))]) [0, 1] rfl rfl ?_
  refine g_astore (lv' := [(5, .ref qh), (0, .ref q0), (1, .int kind), (2, .int number), (3, .int sentAt), (4, .ref (rA σ 30 0))]) C dX3_init_35 (by decide) rfl ?_
  refine g_aload_n C dX3_init_37 rfl 1 rfl ?_
  refine g_aload C dX3_init_38 0 rfl ?_
  refine g_aload C dX3_init_40 0 rfl ?_
  refine g_alenL (t0 := 0) (v := nI 4) C 1 rfl rfl rfl dX3_init_42 ?_
  refine g_aload C dX3_init_43 5 rfl ?_
  refine g_alen (k := 30) (i := 0) (v := nI 0) C rfl l30 (by decide) (by rw [h30]) dX3_init_45 ?_
  refine g_iadd C dX3_init_46 ?_
  refine g_iconst (v := 2) C dX3_init_47 (by decide) ?_
  refine g_iadd C dX3_init_48 ?_
  rw [show nI 4 + nI 0 + 2 = nI (0 + 6) by rw [nI_add, show (2 : Int32) = nI 2 from rfl, nI_add] <;> first | rfl | (congr 1; omega)]
  refine g_cSq (n := 2) (exc := [(qh, .inl (E 0, 4, .inl (msgH kind number)))]) (exr := [(q0, .inr (6, [.int kind, .int sentAt, .null, .int 0]))]) C [_, _] _ rfl rfl [1] [0] rfl rfl rfl rfl (by decide) (fun q h => by simp at h; exact ⟨0, _, by rw [h]; rfl⟩) (fun q h => by simp at h; rw [h]; exact hqh) (fun sz => k_copyOf_k l σ qh 4 (0 + 6) (msgH kind number) (by omega) (by omega) D E sz) rfl gw_318 gw_17 gw_316 gw_317 ⟨by decide +kernel, by decide +kernel, by decide +kernel⟩ ⟨rfl, rfl⟩ ⟨Nat.le_of_ble_eq_true rfl, Nat.le_of_ble_eq_true rfl⟩ (Nat.le_of_ble_eq_true rfl) dX3_init_49 ⟨by show 0 + 1 + 1 ≤ 2; omega, by show 0 + 4 + (0 + 6) ≤ 0 + 10; omega⟩ (fun r u hp hx => ?_)
  obtain ⟨qr, rfl, rfl⟩ := hp
  have hqr : Aof σ [q0] s.heap.size qr := (hx 1 _ rfl).1
  have hqr2 : qr ∈ [qh] ∨ s.heap.size ≤ qr := (hx 1 _ rfl).2
  refine g_ex (ex' := [(qr, .inl (E 0, 0 + 6, .inl (va_cpy (msgH kind number) (fun _ => 0) 0 0 4))), (q0, .inr (6, [.int kind, .int sentAt, .null, .int 0])), (qh, .inl (E 0, 4, .inl (msgH kind number)))]) [1, 2, 0] rfl rfl ?_
  refine g_putLF (ref := "TradeLine$Message") C 1 rfl (hwr _ (List.mem_cons_self ..)) rfl inGX3 tyX3 tyX3_ok nmX3 2 (by decide) gw_340 (fun _ h => h) rfl hin rfl (tyX3_ok 2 (by decide)) rfl rfl (by simp) (ex' := [(qr, .inl (E 0, 0 + 6, .inl (va_cpy (msgH kind number) (fun _ => 0) 0 0 4))), (q0, .inr (6, [.int kind, .int sentAt, .ref qr, .int 0])), (qh, .inl (E 0, 4, .inl (msgH kind number)))]) rfl dX3_init_52 ?_
  refine g_aload C dX3_init_55 5 rfl ?_
  refine g_iconst (v := 0) C dX3_init_57 (by decide) ?_
  refine g_aload_n C dX3_init_58 rfl 1 rfl ?_
  refine g_getL (ref := "TradeLine$Message") C 1 rfl rfl inGX3 2 (by decide) gw_340 (fun _ h => h) rfl dX3_init_59 ?_
  refine g_aload C dX3_init_62 0 rfl ?_
  refine g_alenL (t0 := 0) (v := nI 4) C 2 rfl rfl rfl dX3_init_64 ?_
  refine g_aload C dX3_init_65 5 rfl ?_
  refine g_alen (k := 30) (i := 0) (v := nI 0) C rfl l30 (by decide) (by rw [h30]) dX3_init_67 ?_
  refine g_copyi (f := (rM σ 30 0)) (n0 := 0) C gw_332 gw_331 gw_330 gw_20 (Or.inl ⟨30, 0, l30, rfl, (ct_ia rfl).trans (by rw [h30])⟩) 0 rfl hqr (by decide) (by decide) (nI_pos (by omega)) (by rw [sb_cl0, nI_clamp (by omega)]; omega) (by rw [nI_clamp (by omega), nI_clamp (by omega)]; omega) (Nat.le_of_ble_eq_true rfl) (Nat.le_of_ble_eq_true rfl) (ex' := [(qr, .inl (E 0, 0 + 6, .inl (msgR kind number 0 (rM σ 30 0)))), (q0, .inr (6, [.int kind, .int sentAt, .ref qr, .int 0])), (qh, .inl (E 0, 4, .inl (msgH kind number)))]) (by rw [sb_cl0, nI_clamp (by omega), nI_clamp (by omega)]; rfl) dX3_init_68 ?_
  refine g_aload_n C dX3_init_71 rfl 1 rfl ?_
  refine g_getL (ref := "TradeLine$Message") C 1 rfl rfl inGX3 2 (by decide) gw_340 (fun _ h => h) rfl dX3_init_72 ?_
  refine g_alenL (t0 := 0) (v := nI (0 + 6)) C 0 rfl rfl rfl dX3_init_75 ?_
  refine g_iconst (v := 1) C dX3_init_76 (by decide) ?_
  refine g_isub C dX3_init_77 ?_
  rw [show nI (0 + 6) - 1 = nI (0 + 5) from nI_pred (0 + 5)]
  refine g_istore (lv' := [(6, .int (nI (0 + 5))), (5, .ref qh), (0, .ref q0), (1, .int kind), (2, .int number), (3, .int sentAt), (4, .ref (rA σ 30 0))]) C dX3_init_78 (by decide) rfl ?_
  refine g_iconst (v := 0) C dX3_init_80 (by decide) ?_
  refine g_istore (lv' := [(7, .int 0), (6, .int (nI (0 + 5))), (5, .ref qh), (0, .ref q0), (1, .int kind), (2, .int number), (3, .int sentAt), (4, .ref (rA σ 30 0))]) C dX3_init_81 (by decide) rfl ?_
  refine g_iconst (v := 0) C dX3_init_83 (by decide) ?_
  refine g_istore (lv' := [(8, .int 0), (7, .int 0), (6, .int (nI (0 + 5))), (5, .ref qh), (0, .ref q0), (1, .int kind), (2, .int number), (3, .int sentAt), (4, .ref (rA σ 30 0))]) C dX3_init_84 (by decide) rfl ?_
  refine g_lv (lv' := [(8, .int 0), (7, .int 0), (6, .int (nI (0 + 5))), (0, .ref q0)]) [0, 1, 2, 4] rfl ?_
  refine g_ex (ex' := [(qr, .inl (E 0, 0 + 6, .inl (msgR kind number 0 (rM σ 30 0)))), (q0, .inr (6, [.int kind, .int sentAt, .ref qr, .int 0]))]) [0, 1] rfl rfl ?_
  refine lo_msg C σ q0 qr (0 + 6) (0 + 5) (msgR kind number 0 (rM σ 30 0)) _ _ _ rfl (by omega) (by omega) ?_ (0 + 4) 0 (by omega)
  rw [show 0 + 5 - 1 = 0 + 4 by omega]
  refine g_aload_n C dX3_init_113 rfl 3 rfl ?_
  refine g_getL (ref := "TradeLine$Message") C 1 rfl rfl inGX3 2 (by decide) gw_340 (fun _ h => h) rfl dX3_init_114 ?_
  refine g_iload C dX3_init_117 2 rfl ?_
  refine g_iconst (v := 1) C dX3_init_119 (by decide) ?_
  refine g_isub C dX3_init_120 ?_
  rw [show nI (0 + 5) - 1 = nI (0 + 4) from nI_pred (0 + 4)]
  refine g_bipush (v := 10) C dX3_init_121 (by decide) ?_
  refine g_iastL C 0 rfl hqr (vp_in_nI (show 0 + 4 < 0 + 6 by omega) (show 0 + 6 < 2 ^ 31 by omega)) (ex' := [(qr, .inl (E 0, 0 + 6, .inl (up1 (msgR kind number 0 (rM σ 30 0)) (0 + 4) 10))), (q0, .inr (6, [.int kind, .int sentAt, .ref qr, .int 0]))]) (by rw [nI_clamp (by omega)]; rfl) dX3_init_123 ?_
  refine g_aload_n C dX3_init_124 rfl 3 rfl ?_
  refine g_getL (ref := "TradeLine$Message") C 1 rfl rfl inGX3 2 (by decide) gw_340 (fun _ h => h) rfl dX3_init_125 ?_
  refine g_iload C dX3_init_128 2 rfl ?_
  refine g_iload C dX3_init_130 1 rfl ?_
  refine g_sipush (v := 256) C dX3_init_132 (by decide) ?_
  refine g_cSi (n := 2) (exc := []) (exr := [(qr, .inl (E 0, 0 + 6, .inl (up1 (msgR kind number 0 (rM σ 30 0)) (0 + 4) 10))), (q0, .inr (6, [.int kind, .int sentAt, .ref qr, .int 0]))]) C [_, _] _ rfl rfl [] [0, 1] rfl rfl rfl rfl (fun _ h => by simp) (fun _ h => absurd h (by simp)) (fun _ h => absurd h (by simp)) (fun sz => k_fm l σ _ D E sz) rfl gw_335 gw_19 gw_333 gw_334 ⟨by decide +kernel, by decide +kernel, by decide +kernel⟩ ⟨rfl, rfl⟩ ⟨Nat.le_of_ble_eq_true rfl, Nat.le_of_ble_eq_true rfl⟩ (Nat.le_of_ble_eq_true rfl) dX3_init_135 ⟨by show 0 + 1 + 1 + 0 ≤ 2; omega, by show 0 + 4 + (0 + 6) + 0 ≤ 0 + 10; omega⟩ (fun r u hp hx => ?_)
  obtain ⟨er, rfl⟩ := hp
  rw [er]
  try dsimp only [List.nil_append]
  refine g_iastL C 0 rfl hqr (vp_in_nI (show 0 + 5 < 0 + 6 by omega) (show 0 + 6 < 2 ^ 31 by omega)) (ex' := [(qr, .inl (E 0, 0 + 6, .inl (msgF kind number 0 (rM σ 30 0)))), (q0, .inr (6, [.int kind, .int sentAt, .ref qr, .int 0]))]) (by rw [nI_clamp (by omega)]; rfl) dX3_init_138 ?_
  refine g_ex (ex' := [(q0, .inr (6, [.int kind, .int sentAt, .ref qr, .int 0])), (qr, .inl (E 0, 0 + 6, .inl (msgF kind number 0 (rM σ 30 0))))]) [1, 0] rfl rfl ?_
  refine g_widen (k := 2) (n := 0 + 10) (by omega) (by show 0 + 4 + (0 + 6) + 0 ≤ 0 + 10; omega) ?_
  exact g_vret C hr hz (stq_rfl _) ⟨qr, rfl⟩ (fun j x h => by match j, h with | 0, h => cases h; exact Or.inl (List.mem_cons_self ..) | 1, h => cases h; exact hqr2.elim (fun h => by simp at h; rw [h]; exact Or.inr hqhs) Or.inr) dX3_init_139
