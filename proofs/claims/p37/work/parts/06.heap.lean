/-! Fields, arrays and new cells over G. -/
theorem stI (cA : ClassId) (n j : Nat) (f : Nat → Int32) (x : Int32) : (vp_cell cA (n, .inl f)).setSlot j (.int x) = vp_cell cA (n, .inl (up1 f j x)) := by
  rw [vp_cell_i, vp_cell_i, arrV_store]
  congr 2
  funext q
  by_cases hq : q = j
  · subst hq; simp [updV, up1]
  · simp [updV, up1, hq]
theorem stQ (cA : ClassId) (n j : Nat) (f : Nat → Option Nat) (x : Option Nat) : (vp_cell cA (n, .inr (.inr (.inr (.inr f))))).setSlot j (va_rf x) = vp_cell cA (n, .inr (.inr (.inr (.inr (up1 f j x))))) := by
  rw [vp_cell_q, vp_cell_q, arrV_store]
  congr 2
  funext q
  by_cases hq : q = j
  · subst hq; simp [updV, up1]
  · simp [updV, up1, hq]
theorem stL (cA : ClassId) (n j : Nat) (f : Nat → Int64) (x : Int64) : (vp_cell cA (n, .inr (.inl f))).setSlot j (.long x) = vp_cell cA (n, .inr (.inl (up1 f j x))) := by
  rw [vp_cell_l, vp_cell_l, arrV_store]
  congr 2
  funext q
  by_cases hq : q = j
  · subst hq; simp [updV, up1]
  · simp [updV, up1, hq]
theorem fvs_set (fs : List Value) (k : Nat) (h : k < fs.length) (v : Value) : ∀ j : Nat, vp_V (fs.set k v) j = updV (vp_V fs) k v j := fun j => by
  unfold vp_V updV
  by_cases hj : j = k
  · subst hj; simp [h]
  · rw [if_neg hj]
    show (fs.set k v).getD j .null = fs.getD j .null
    rw [List.getD_eq_getElem?_getD, List.getD_eq_getElem?_getD, List.getElem?_set_ne (fun e => hj e.symm)]
section HeapG
variable {p : Program} {l : Launch} {e : Env} {R : Room} {s : State} {m : MethodId} {args : Array Value} {below : List Frame} {meth : Method} {c : Code} {D : va_G} {E : Nat → ClassId} {A : Nat → Prop} {cc : ByteArray} {nL : Nat} {own : String} {Q : State → Prop}
variable {σ : RS} {ex : va_W} {cells slots pc : Nat} {lv : List (Nat × Value)} {rest : List Value}
theorem g_put0 (C : cx p s m args meth c D E A cc nL own) {ci a : Nat} {index : Nat} {ref Cn : String} {T : u_T} {N : Nat} {fs : List Value} {H : Heap} {locs : List Loc} {ls : Array Slot} (hat : va_at D vwCl (a, .inr (ci, fs)) H) (hci : vwCl[ci]? = some (Cn, T, N)) (hin : ∀ w ∈ u_ws Cn T N, w ∈ GT) (ty0 : Nat → FieldType) (hty : ∀ k, k < N → parseFieldDescriptor (T k).2.2.1 = some (ty0 k)) (hnm : ∀ a, a < N → ∀ b, b < N → a ≠ b → (T a).2.1 ≠ (T b).2.1) (j : Nat) (hj : j < N) (hlink : Cond.fieldLink own index ref (T j).2.1 (T j).2.2.1 ∈ GT) (hsame : ∀ x, s.fieldFound? (T j).1 (T j).2.1 (T j).2.2.1 = some x → s.fieldFound? ref (T j).2.1 (T j).2.2.1 = some x) (hfin : (T j).2.2.2 = false) {ty : FieldType} {v : Value} (hde : parseFieldDescriptor (T j).2.2.1 = some ty) (hn : narrow ty v = v) (hfit : fits ty v = true) (hlen : j < fs.length) (hd : decode cc pc = .ok (.putfield index, 3))
    (kk : ∀ (H1 : Heap) (i : Nat), va_at D vwCl (a, .inr (ci, fs.set j v)) H1 → H1.size = H.size → (∀ q, q ≠ a → H1[q]? = H[q]?) → W p l e R s m args below meth c H1 (locs ++ [⟨a, i⟩]) cells slots Q (F0 m (pc + 3) ls rest)) : W p l e R s m args below meth c H locs cells slots Q (F0 m pc ls (v :: .ref a :: rest)) := by
  obtain ⟨hx, hb, hown, hts, -, -, hK, -⟩ := C
  have hap := va_apart (own := own) hts hin ty0 hty hnm hK hci
  obtain ⟨r, h1, cell, q1, q2, q3, q4⟩ := hat
  have hr : r = (Cn, T, N) := Option.some.inj (h1.symm.trans hci)
  subst hr
  obtain ⟨hS, hfc, kC, hkC, hkind⟩ := hK.1 ci _ hci
  obtain ⟨cf, kf, fi, f, hi, hsl⟩ := hS j hj
  have hlay := hts _ (hin _ (u_in_lay hj))
  unfold u_lay at hlay
  rw [if_neg (by rw [hfin]; decide)] at hlay
  have hst := (u_facts hfc hkC (u_lays hts hin hj) hi).1
  have h6 := u_store hfc hkC hkind hlay hi hde hn hfit
  refine W.putK hx hb (f := f) ⟨hown, hts _ hlink, ⟨_, _, _, hsame _ hi⟩, hst⟩ (by rw [q2]; exact h6) q1 q3 (by rw [hsl]; exact k2_hasslot (q4 j hj)) rfl rfl hd fun H' e1 e2 e3 => ?_
  rw [hsl] at e1 ⊢
  exact kk H' _ ⟨_, hci, t_OB.to (V := updV (vp_V fs) j v) ⟨_, e1, q2, q3, t_set q4 hap hj v⟩ (fun i _ => (fvs_set fs j hlen v i).symm)⟩ e2 e3
theorem g_put0F (C : cx p s m args meth c D E A cc nL own) {ci a : Nat} {index : Nat} {ref Cn : String} {T : u_T} {N : Nat} {fs : List Value} {H : Heap} {locs : List Loc} {ls : Array Slot} (hat : va_at D vwCl (a, .inr (ci, fs)) H) (hci : vwCl[ci]? = some (Cn, T, N)) (hin : ∀ w ∈ u_ws Cn T N, w ∈ GT) (ty0 : Nat → FieldType) (hty : ∀ k, k < N → parseFieldDescriptor (T k).2.2.1 = some (ty0 k)) (hnm : ∀ a, a < N → ∀ b, b < N → a ≠ b → (T a).2.1 ≠ (T b).2.1) (j : Nat) (hj : j < N) (hlink : Cond.fieldLink own index ref (T j).2.1 (T j).2.2.1 ∈ GT) (hsame : ∀ x, s.fieldFound? (T j).1 (T j).2.1 (T j).2.2.1 = some x → s.fieldFound? ref (T j).2.1 (T j).2.2.1 = some x) (hfin : (T j).2.2.2 = true) (hin2 : meth.name = "<init>") (hdecl : (T j).1 = own) {ty : FieldType} {v : Value} (hde : parseFieldDescriptor (T j).2.2.1 = some ty) (hn : narrow ty v = v) (hfit : fits ty v = true) (hlen : j < fs.length) (hd : decode cc pc = .ok (.putfield index, 3))
    (kk : ∀ (H1 : Heap) (i : Nat), va_at D vwCl (a, .inr (ci, fs.set j v)) H1 → H1.size = H.size → (∀ q, q ≠ a → H1[q]? = H[q]?) → W p l e R s m args below meth c H1 (locs ++ [⟨a, i⟩]) cells slots Q (F0 m (pc + 3) ls rest)) : W p l e R s m args below meth c H locs cells slots Q (F0 m pc ls (v :: .ref a :: rest)) := by
  obtain ⟨hx, hb, hown, hts, -, -, hK, -⟩ := C
  have hap := va_apart (own := own) hts hin ty0 hty hnm hK hci
  obtain ⟨r, h1, cell, q1, q2, q3, q4⟩ := hat
  have hr : r = (Cn, T, N) := Option.some.inj (h1.symm.trans hci)
  subst hr
  obtain ⟨hS, hfc, kC, hkC, hkind⟩ := hK.1 ci _ hci
  obtain ⟨cf, kf, fi, f, hi, hsl⟩ := hS j hj
  have hlay := hts _ (hin _ (u_in_lay hj))
  unfold u_lay at hlay
  rw [if_pos hfin] at hlay
  have hst := (u_facts hfc hkC (u_lays hts hin hj) hi).1
  have hcf : m.cls = cf := by
    obtain ⟨_, _, c', _, _, _, -, -, hf', -, -, -, hown2, -⟩ := Cond.laysFinal_spec hlay
    have e1 : c' = cf := by have := hi.symm.trans hf'; simp at this; exact this.1.symm
    rw [hdecl] at hown2
    rw [← e1]; exact Option.some.inj (hown.symm.trans hown2)
  have h6 := u_fits hfc hkC hkind (Or.inr hlay) hi hde hn hfit
  refine W.putFinK hx hb hown (hts _ hlink) (hsame _ hi) hst hcf hin2 (by rw [q2]; exact h6) q1 q3 (by rw [hsl]; exact k2_hasslot (q4 j hj)) rfl rfl hd fun H' e1 e2 e3 => ?_
  rw [hsl] at e1 ⊢
  exact kk H' _ ⟨_, hci, t_OB.to (V := updV (vp_V fs) j v) ⟨_, e1, q2, q3, t_set q4 hap hj v⟩ (fun i _ => (fvs_set fs j hlen v i).symm)⟩ e2 e3
theorem ct_obj {k i : Nat} {σ : RS} (h : knd k = 0) : ct E σ k i = .inr (cK k, fvs (rM σ k i) (rN σ) (rP σ k i) (rA σ) k i) := by
  show ctg E _ _ _ _ k i = _
  unfold ctg; rw [h]; rfl
/-- an int field of a live tag -/
theorem g_put (C : cx p s m args meth c D E A cc nL own) {k i q : Nat} {index : Nat} {ref Cn : String} {T : u_T} {N : Nat} (hq : rA σ k i = q) (hlv : live σ k i) (hkn : knd k = 0) (hci : vwCl[cK k]? = some (Cn, T, N)) (hin : ∀ w ∈ u_ws Cn T N, w ∈ GT) (ty0 : Nat → FieldType) (hty : ∀ k, k < N → parseFieldDescriptor (T k).2.2.1 = some (ty0 k)) (hnm : ∀ a, a < N → ∀ b, b < N → a ≠ b → (T a).2.1 ≠ (T b).2.1) (j : Nat) (hj : j < N) (hlink : Cond.fieldLink own index ref (T j).2.1 (T j).2.2.1 ∈ GT) (hsame : ∀ x, s.fieldFound? (T j).1 (T j).2.1 (T j).2.2.1 = some x → s.fieldFound? ref (T j).2.1 (T j).2.2.1 = some x) (hfin : (T j).2.2.2 = false) {ty : FieldType} {x : Int32} (hde : parseFieldDescriptor (T j).2.2.1 = some ty) (hn : narrow ty (.int x) = .int x) (hfit : fits ty (.int x) = true) (hlen : j < (fvs (rM σ k i) (rN σ) (rP σ k i) (rA σ) k i).length) (hset : fvs (up1 (rM σ k i) j x) (rN σ) (rP σ k i) (rA σ) k i = (fvs (rM σ k i) (rN σ) (rP σ k i) (rA σ) k i).set j (.int x)) (hd : decode cc pc = .ok (.putfield index, 3))
    (kk : G p l e R s m args below meth c D E A nL Q (sM σ k i j x) ex cells slots (pc + 3) lv (rest)) : G p l e R s m args below meth c D E A nL Q σ ex cells slots (pc) lv (.int x :: .ref q :: rest) := fun H locs ls hw hs hl => by
  subst hq
  have hat := (hw.1 k i hlv).1.to (fun h => by subst h; cases hkn) (fun h => by subst h; cases hkn)
  rw [ct_obj hkn] at hat
  refine g_put0 C hat hci hin ty0 hty hnm j hj hlink hsame hfin hde hn hfit hlen hd fun H1 n h1 h2 h3 => ?_
  refine kk H1 _ ls (wld_cell (σ' := sM σ k i j x) hw hlv rfl rfl (sM_other σ k i j x) ?_ h3) (hs.put h2 h3 ((hw.1 k i hlv).2 (fun h => by subst h; cases hkn) (fun h => by subst h; cases hkn))) hl
  rw [ct_obj hkn, rM_sM]
  show va_at D vwCl (_, .inr (_, fvs _ (rN σ) (rP σ k i) (rA σ) k i)) H1
  rw [hset]
  exact h1
/-- a field of a loose cell -/
theorem g_putL (C : cx p s m args meth c D E A cc nL own) {q ci : Nat} {index : Nat} {ref Cn : String} {T : u_T} {N : Nat} {fs : List Value} (n : Nat) (he : ex[n]? = some (q, .inr (ci, fs))) (hq : A q) (hci : vwCl[ci]? = some (Cn, T, N)) (hin : ∀ w ∈ u_ws Cn T N, w ∈ GT) (ty0 : Nat → FieldType) (hty : ∀ k, k < N → parseFieldDescriptor (T k).2.2.1 = some (ty0 k)) (hnm : ∀ a, a < N → ∀ b, b < N → a ≠ b → (T a).2.1 ≠ (T b).2.1) (j : Nat) (hj : j < N) (hlink : Cond.fieldLink own index ref (T j).2.1 (T j).2.2.1 ∈ GT) (hsame : ∀ x, s.fieldFound? (T j).1 (T j).2.1 (T j).2.2.1 = some x → s.fieldFound? ref (T j).2.1 (T j).2.2.1 = some x) (hfin : (T j).2.2.2 = false) {ty : FieldType} {v : Value} (hde : parseFieldDescriptor (T j).2.2.1 = some ty) (hn : narrow ty v = v) (hfit : fits ty v = true) (hlen : j < fs.length) {ex' : va_W} (hex : ex.set n (q, .inr (ci, fs.set j v)) = ex') (hd : decode cc pc = .ok (.putfield index, 3))
    (kk : G p l e R s m args below meth c D E A nL Q σ ex' cells slots (pc + 3) lv (rest)) : G p l e R s m args below meth c D E A nL Q σ ex cells slots (pc) lv (v :: .ref q :: rest) := fun H locs ls hw hs hl => by
  subst hex
  exact g_put0 C (hw.2.2.1 n _ he).1 hci hin ty0 hty hnm j hj hlink hsame hfin hde hn hfit hlen hd fun H1 i h1 h2 h3 => kk H1 _ ls (wld_ex hw he h1 h3) (hs.put h2 h3 hq) hl
theorem g_putLF (C : cx p s m args meth c D E A cc nL own) {q ci : Nat} {index : Nat} {ref Cn : String} {T : u_T} {N : Nat} {fs : List Value} (n : Nat) (he : ex[n]? = some (q, .inr (ci, fs))) (hq : A q) (hci : vwCl[ci]? = some (Cn, T, N)) (hin : ∀ w ∈ u_ws Cn T N, w ∈ GT) (ty0 : Nat → FieldType) (hty : ∀ k, k < N → parseFieldDescriptor (T k).2.2.1 = some (ty0 k)) (hnm : ∀ a, a < N → ∀ b, b < N → a ≠ b → (T a).2.1 ≠ (T b).2.1) (j : Nat) (hj : j < N) (hlink : Cond.fieldLink own index ref (T j).2.1 (T j).2.2.1 ∈ GT) (hsame : ∀ x, s.fieldFound? (T j).1 (T j).2.1 (T j).2.2.1 = some x → s.fieldFound? ref (T j).2.1 (T j).2.2.1 = some x) (hfin : (T j).2.2.2 = true) (hin2 : meth.name = "<init>") (hdecl : (T j).1 = own) {ty : FieldType} {v : Value} (hde : parseFieldDescriptor (T j).2.2.1 = some ty) (hn : narrow ty v = v) (hfit : fits ty v = true) (hlen : j < fs.length) {ex' : va_W} (hex : ex.set n (q, .inr (ci, fs.set j v)) = ex') (hd : decode cc pc = .ok (.putfield index, 3))
    (kk : G p l e R s m args below meth c D E A nL Q σ ex' cells slots (pc + 3) lv (rest)) : G p l e R s m args below meth c D E A nL Q σ ex cells slots (pc) lv (v :: .ref q :: rest) := fun H locs ls hw hs hl => by
  subst hex
  exact g_put0F C (hw.2.2.1 n _ he).1 hci hin ty0 hty hnm j hj hlink hsame hfin hin2 hdecl hde hn hfit hlen hd fun H1 i h1 h2 h3 => kk H1 _ ls (wld_ex hw he h1 h3) (hs.put h2 h3 hq) hl
theorem ct_ia {k i : Nat} {σ : RS} (h : knd k = 1) : ct E σ k i = .inl (E 0, rN σ k i, .inl (rM σ k i)) := by
  show ctg E _ _ _ _ k i = _
  unfold ctg; rw [h]; rfl
theorem g_iald (C : cx p s m args meth c D E A cc nL own) {k i q : Nat} {n : Int32} (hq : rA σ k i = q) (hlv : live σ k i) (hkn : knd k = 1) (hin : vp_in n (rN σ k i)) (hd : decode cc pc = .ok (.iaload, 1)) (kk : G p l e R s m args below meth c D E A nL Q σ ex cells slots (pc + 1) lv (.int (rM σ k i n.toNatClampNeg) :: rest)) (h30 : k ≠ 30 := by omega) : G p l e R s m args below meth c D E A nL Q σ ex cells slots (pc) lv (.int n :: .ref q :: rest) := fun H locs ls hw hs hl =>
  va_iald C.1 C.2.1 C.2.2.2.2.2.2.1 (wld_one hw hlv hq h30 (fun h => by subst h; cases hkn)) 0 0 (cA := E 0) (n := rN σ k i) (f := rM σ k i) (by rw [ct_ia hkn]; rfl) rfl hin hd (kk H locs ls hw hs hl)
theorem g_ialdL (C : cx p s m args meth c D E A cc nL own) {q N : Nat} {f : Nat → Int32} {n : Int32} (j : Nat) (he : ex[j]? = some (q, .inl (E 0, N, .inl f))) (hin : vp_in n N) (hd : decode cc pc = .ok (.iaload, 1)) (kk : G p l e R s m args below meth c D E A nL Q σ ex cells slots (pc + 1) lv (.int (f n.toNatClampNeg) :: rest)) : G p l e R s m args below meth c D E A nL Q σ ex cells slots (pc) lv (.int n :: .ref q :: rest) := fun H locs ls hw hs hl =>
  va_iald C.1 C.2.1 C.2.2.2.2.2.2.1 (fun j q hq => (hw.2.2.1 j q hq).1) j 0 he rfl hin hd (kk H locs ls hw hs hl)
theorem g_iast (C : cx p s m args meth c D E A cc nL own) {k i q : Nat} {n x : Int32} (hq : rA σ k i = q) (hlv : live σ k i) (hne : k ≠ 30 ∧ k ≠ 31) (hkn : knd k = 1) (hin : vp_in n (rN σ k i)) (hd : decode cc pc = .ok (.iastore, 1)) (kk : G p l e R s m args below meth c D E A nL Q (sM σ k i n.toNatClampNeg x) ex cells slots (pc + 1) lv (rest)) : G p l e R s m args below meth c D E A nL Q σ ex cells slots (pc) lv (.int x :: .int n :: .ref q :: rest) := fun H locs ls hw hs hl => by
  subst hq
  have hat := (hw.1 k i hlv).1.to hne.1 hne.2
  rw [ct_ia hkn] at hat
  refine W.iast C.1 C.2.1 (show H[rA σ k i]? = some (vp_cell (E 0) (rN σ k i, .inl (rM σ k i))) from hat) ((C.2.2.2.2.2.2.1.2 0 _ rfl).1 _ (fun j => .int (rM σ k i j))) (fun q => by cases q) (by show ¬ (n < 0 ∨ (arrV _ _ _).slots.size ≤ _); rw [arrV_size]; exact hin) rfl rfl hd fun H1 e z oq => ?_
  refine kk H1 _ ls (wld_cell (σ' := sM σ k i n.toNatClampNeg x) hw hlv rfl rfl (sM_other σ k i _ _) ?_ oq) (hs.put z oq ((hw.1 k i hlv).2 hne.1 hne.2)) hl
  rw [ct_ia hkn, rM_sM]
  show H1[_]? = some (vp_cell _ _)
  rw [e]; exact congrArg some (stI _ _ _ _ _)
theorem g_iastL (C : cx p s m args meth c D E A cc nL own) {q N : Nat} {f : Nat → Int32} {n x : Int32} (j : Nat) (he : ex[j]? = some (q, .inl (E 0, N, .inl f))) (hqa : A q) (hin : vp_in n N) {ex' : va_W} (hex : ex.set j (q, .inl (E 0, N, .inl (up1 f n.toNatClampNeg x))) = ex') (hd : decode cc pc = .ok (.iastore, 1)) (kk : G p l e R s m args below meth c D E A nL Q σ ex' cells slots (pc + 1) lv (rest)) : G p l e R s m args below meth c D E A nL Q σ ex cells slots (pc) lv (.int x :: .int n :: .ref q :: rest) := fun H locs ls hw hs hl => by
  subst hex
  have hat := (hw.2.2.1 j _ he).1
  refine W.iast C.1 C.2.1 (show H[q]? = some (vp_cell (E 0) (N, .inl f)) from hat) ((C.2.2.2.2.2.2.1.2 0 _ rfl).1 _ (fun j => .int (f j))) (fun q => by cases q) (by show ¬ (n < 0 ∨ (arrV _ _ _).slots.size ≤ _); rw [arrV_size]; exact hin) rfl rfl hd fun H1 e z oq => ?_
  refine kk H1 _ ls (wld_ex hw he ?_ oq) (hs.put z oq hqa) hl
  show H1[_]? = some (vp_cell _ _)
  rw [e]; exact congrArg some (stI _ _ _ _ _)
theorem ct_za {k i : Nat} {σ : RS} (h : knd k = 2) : ct E σ k i = .inl (E 1, rN σ k i, .inl (rM σ k i)) := by
  show ctg E _ _ _ _ k i = _
  unfold ctg; rw [h]; rfl
theorem g_zald (C : cx p s m args meth c D E A cc nL own) {k i q : Nat} {n : Int32} (hq : rA σ k i = q) (hlv : live σ k i) (hkn : knd k = 2) (hin : vp_in n (rN σ k i)) (hd : decode cc pc = .ok (.baload, 1)) (kk : G p l e R s m args below meth c D E A nL Q σ ex cells slots (pc + 1) lv (.int (rM σ k i n.toNatClampNeg) :: rest)) : G p l e R s m args below meth c D E A nL Q σ ex cells slots (pc) lv (.int n :: .ref q :: rest) := fun H locs ls hw hs hl =>
  va_zald C.1 C.2.1 C.2.2.2.2.2.2.1 (wld_one hw hlv hq (fun h => by subst h; cases hkn) (fun h => by subst h; cases hkn)) 0 1 (cA := E 1) (n := rN σ k i) (f := rM σ k i) (by rw [ct_za hkn]; rfl) rfl hin hd (kk H locs ls hw hs hl)
theorem g_zaldL (C : cx p s m args meth c D E A cc nL own) {q N : Nat} {f : Nat → Int32} {n : Int32} (j : Nat) (he : ex[j]? = some (q, .inl (E 1, N, .inl f))) (hin : vp_in n N) (hd : decode cc pc = .ok (.baload, 1)) (kk : G p l e R s m args below meth c D E A nL Q σ ex cells slots (pc + 1) lv (.int (f n.toNatClampNeg) :: rest)) : G p l e R s m args below meth c D E A nL Q σ ex cells slots (pc) lv (.int n :: .ref q :: rest) := fun H locs ls hw hs hl =>
  va_zald C.1 C.2.1 C.2.2.2.2.2.2.1 (fun j q hq => (hw.2.2.1 j q hq).1) j 1 he rfl hin hd (kk H locs ls hw hs hl)
theorem g_zast (C : cx p s m args meth c D E A cc nL own) {k i q : Nat} {n x : Int32} (hq : rA σ k i = q) (hlv : live σ k i) (hne : k ≠ 30 ∧ k ≠ 31) (hkn : knd k = 2) (hin : vp_in n (rN σ k i)) (hd : decode cc pc = .ok (.bastore, 1)) (kk : G p l e R s m args below meth c D E A nL Q (sM σ k i n.toNatClampNeg (vp_nar .boolean x)) ex cells slots (pc + 1) lv (rest)) : G p l e R s m args below meth c D E A nL Q σ ex cells slots (pc) lv (.int x :: .int n :: .ref q :: rest) := fun H locs ls hw hs hl => by
  subst hq
  have hat := (hw.1 k i hlv).1.to hne.1 hne.2
  rw [ct_za hkn] at hat
  refine W.zast C.1 C.2.1 (show H[rA σ k i]? = some (vp_cell (E 1) (rN σ k i, .inl (rM σ k i))) from hat) ((C.2.2.2.2.2.2.1.2 1 _ rfl).1 _ (fun j => .int (rM σ k i j))) (fun q => by cases q) (by show ¬ (n < 0 ∨ (arrV _ _ _).slots.size ≤ _); rw [arrV_size]; exact hin) rfl rfl hd fun H1 e z oq => ?_
  refine kk H1 _ ls (wld_cell (σ' := sM σ k i n.toNatClampNeg (vp_nar .boolean x)) hw hlv rfl rfl (sM_other σ k i _ _) ?_ oq) (hs.put z oq ((hw.1 k i hlv).2 hne.1 hne.2)) hl
  rw [ct_za hkn, rM_sM]
  show H1[_]? = some (vp_cell _ _)
  rw [e]; exact congrArg some (stI _ _ _ _ (vp_nar .boolean x))
theorem g_zastL (C : cx p s m args meth c D E A cc nL own) {q N : Nat} {f : Nat → Int32} {n x : Int32} (j : Nat) (he : ex[j]? = some (q, .inl (E 1, N, .inl f))) (hqa : A q) (hin : vp_in n N) {ex' : va_W} (hex : ex.set j (q, .inl (E 1, N, .inl (up1 f n.toNatClampNeg (vp_nar .boolean x)))) = ex') (hd : decode cc pc = .ok (.bastore, 1)) (kk : G p l e R s m args below meth c D E A nL Q σ ex' cells slots (pc + 1) lv (rest)) : G p l e R s m args below meth c D E A nL Q σ ex cells slots (pc) lv (.int x :: .int n :: .ref q :: rest) := fun H locs ls hw hs hl => by
  subst hex
  have hat := (hw.2.2.1 j _ he).1
  refine W.zast C.1 C.2.1 (show H[q]? = some (vp_cell (E 1) (N, .inl f)) from hat) ((C.2.2.2.2.2.2.1.2 1 _ rfl).1 _ (fun j => .int (f j))) (fun q => by cases q) (by show ¬ (n < 0 ∨ (arrV _ _ _).slots.size ≤ _); rw [arrV_size]; exact hin) rfl rfl hd fun H1 e z oq => ?_
  refine kk H1 _ ls (wld_ex hw he ?_ oq) (hs.put z oq hqa) hl
  show H1[_]? = some (vp_cell _ _)
  rw [e]; exact congrArg some (stI _ _ _ _ (vp_nar .boolean x))
theorem g_alen (C : cx p s m args meth c D E A cc nL own) {k i q : Nat} {v : Int32} (hq : rA σ k i = q) (hlv : live σ k i) (hkn : knd k ≠ 0) (hv : nI (rN σ k i) = v) (hd : decode cc pc = .ok (.arraylength, 1)) (kk : G p l e R s m args below meth c D E A nL Q σ ex cells slots (pc + 1) lv (.int v :: rest)) : G p l e R s m args below meth c D E A nL Q σ ex cells slots (pc) lv (.ref q :: rest) := fun H locs ls hw hs hl => by
  by_cases h9 : k = 30 ∨ k = 31
  · have hat := (hw.1 k i hlv).1
    unfold vA at hat
    rw [if_pos h9] at hat
    subst hq
    have hK := C.2.2.2.2.2.2.1
    rcases h9 with rfl | rfl
    · obtain ⟨cell, g1, g2, g3, -, g4⟩ := hat
      have hA := ((hK.2 0 _ rfl).1 0 (fun _ => .int 0)).2
      exact W.alen C.1 C.2.1 g1 ⟨fun z h => (by rw [h] at g3; cases g3), (by rw [g2]; exact hA)⟩ (by rw [g4]; show Int32.ofNat (arrV _ _ _).slots.size = _; rw [arrV_size]; exact hv) rfl rfl hd (kk H locs ls hw hs hl)
    · obtain ⟨cell, g1, g2, g3, -, g4⟩ := hat
      have hA := ((hK.2 2 _ rfl).1 0 (fun _ => .null)).2
      exact W.alen C.1 C.2.1 g1 ⟨fun z h => (by rw [h] at g3; cases g3), (by rw [g2]; exact hA)⟩ (by rw [g4]; show Int32.ofNat (arrV _ _ _).slots.size = _; rw [arrV_size]; exact hv) rfl rfl hd (kk H locs ls hw hs hl)
  have hP := wld_one hw hlv hq (fun h => h9 (Or.inl h)) (fun h => h9 (Or.inr h))
  have hk := kk H locs ls hw hs hl
  have hK := C.2.2.2.2.2.2.1
  have hc : ct E σ k i = ctg E (rM σ k i) (rN σ) (rP σ k i) (rA σ) k i := rfl
  unfold ctg at hc
  split at hc
  · exact absurd ‹knd k = 0› hkn
  · exact va_alen C.1 C.2.1 hK hP 0 0 (x := (rN σ k i, _)) (by rw [hc]; rfl) rfl hv hd hk
  · exact va_alen C.1 C.2.1 hK hP 0 1 (x := (rN σ k i, _)) (by rw [hc]; rfl) rfl hv hd hk
  · exact va_alen C.1 C.2.1 hK hP 0 2 (x := (rN σ k i, _)) (by rw [hc]; rfl) rfl hv hd hk
  · exact va_alen C.1 C.2.1 hK hP 0 3 (x := (rN σ k i, _)) (by rw [hc]; rfl) rfl hv hd hk
  · exact va_alen C.1 C.2.1 hK hP 0 4 (x := (rN σ k i, _)) (by rw [hc]; rfl) rfl hv hd hk
theorem g_alenL (C : cx p s m args meth c D E A cc nL own) {q t0 : Nat} {cA : ClassId} {ty : FieldType} {x : vp_A} {v : Int32} (j : Nat) (he : ex[j]? = some (q, .inl (cA, x))) (ht : (tysE E)[t0]? = some (cA, ty)) (hv : Int32.ofNat x.1 = v) (hd : decode cc pc = .ok (.arraylength, 1)) (kk : G p l e R s m args below meth c D E A nL Q σ ex cells slots (pc + 1) lv (.int v :: rest)) : G p l e R s m args below meth c D E A nL Q σ ex cells slots (pc) lv (.ref q :: rest) := fun H locs ls hw hs hl =>
  va_alen C.1 C.2.1 C.2.2.2.2.2.2.1 (fun j q hq => (hw.2.2.1 j q hq).1) j t0 he ht hv hd (kk H locs ls hw hs hl)
/-- a new object, loose -/
theorem g_new (C : cx p s m args meth c D E A cc nL own) {index ci : Nat} {Cn : String} {T : u_T} {N : Nat} (hin : ∀ w ∈ u_ws Cn T N, w ∈ GT) (ty : Nat → FieldType) (hty : ∀ k, k < N → parseFieldDescriptor (T k).2.2.1 = some (ty k)) (hcl : Cond.classLink own index Cn ∈ GT) (hinst : Cond.instantiable Cn N ∈ GT) (hini : Cond.initialized Cn ∈ GT) (hci : vwCl[ci]? = some (Cn, T, N)) {fs : List Value} (hfs : ∀ j, j < N → defaultValue (ty j) = vp_V fs j) (hcells : cells + 1 ≤ R.cells) (hslots : slots + N ≤ R.slots) (hd : decode cc pc = .ok (.new index, 3))
    (kk : ∀ q : Nat, A q → s.heap.size ≤ q → G p l e R s m args below meth c D E A nL Q σ (ex ++ [(q, .inr (ci, fs))]) (cells + 1) (slots + N) (pc + 3) lv (.ref q :: rest)) : G p l e R s m args below meth c D E A nL Q σ ex cells slots (pc) lv (rest) := fun H locs ls hw hs hl => by
  have hKn := C.2.2.2.2.2.2.1.1 ci _ hci
  refine W.newcK C.1 C.2.1 C.2.2.1 (C.2.2.2.1 _ hcl) (C.2.2.2.1 _ hinst) (C.2.2.2.1 _ hini) rfl hd hcells hslots hKn.2.1 rfl fun H1 kC hkC e1 z1 o1 => ?_
  refine kk H.size (C.2.2.2.2.2.2.2 _ hs.1) hs.1 H1 locs ls (wld_new hw (Nat.le_refl _) ⟨_, hci, (u_born ty C.2.2.2.1 hin hKn hkC e1 hty).to hfs⟩ o1) ⟨Nat.le_trans hs.1 (by omega), fun x h1 h2 => (o1 x (Nat.lt_of_lt_of_le h1 hs.1)).trans (hs.2.1 x h1 h2), hs.2.2⟩ hl
/-- a new array of numbers, loose -/
theorem g_newa (C : cx p s m args meth c D E A cc nL own) {atype : ArrayType} {ty : FieldType} {t : Nat} {n : Int32} {N' : Nat} {a0 : vp_A} (harr : Cond.arrayClass ty ∈ GT) (hty : newarray.typeOf atype = ty) (ht : (tysE E)[t]? = some (E t, ty)) (hro : ∀ C0 : String, ty ≠ .object C0) (ha : ∀ cA : ClassId, vp_cell cA a0 = arrV cA N' (fun _ => defaultValue ty)) (hn : ¬ n < 0) (hN : n.toNatClampNeg = N') (hbytes : N' * componentBytes ty ≤ 536870912) (hcells : cells + 1 ≤ R.cells) (hslots : slots + N' ≤ R.slots) (hd : decode cc pc = .ok (.newarray atype, 2))
    (kk : ∀ q : Nat, A q → s.heap.size ≤ q → G p l e R s m args below meth c D E A nL Q σ (ex ++ [(q, .inl (E t, a0))]) (cells + 1) (slots + N') (pc + 2) lv (.ref q :: rest)) : G p l e R s m args below meth c D E A nL Q σ ex cells slots (pc) lv (.int n :: rest) := fun H locs ls hw hs hl => by
  subst hty
  refine va_newaK C.1 C.2.1 (C.2.2.2.1 _ harr) rfl hd rfl hn hN hbytes hcells hslots rfl fun H1 cA e1 z1 o1 hAr hNm => ?_
  have hE : cA = E t := by
    have h3 := (C.2.2.2.2.2.2.1.2 t _ ht).2
    have h4 : s.vm.findClass ("[" ++ (newarray.typeOf atype).toString) = some (E t) := by cases atype <;> exact h3
    exact Option.some.inj (hNm.symm.trans h4)
  subst hE
  refine kk H.size (C.2.2.2.2.2.2.2 _ hs.1) hs.1 H1 locs ls (wld_new hw (Nat.le_refl _) ?_ o1) ⟨Nat.le_trans hs.1 (by omega), fun x h1 h2 => (o1 x (Nat.lt_of_lt_of_le h1 hs.1)).trans (hs.2.1 x h1 h2), hs.2.2⟩ hl
  show H1[H.size]? = some (vp_cell _ _)
  rw [ha]
  exact e1
theorem g_objInit (C : cx p s m args meth c D E A cc nL own) {idx a : Nat} (h1 : Cond.methodLink own idx objectInit ∈ GT) (h2 : Cond.instanceMethod objectInit ∈ GT) (h3 : Cond.code objectInit ⟨#[0xb1]⟩ 1 none ∈ GT) (hR : 1 ≤ R.frames) (hr2 : (rest.map fun v => v.category).sum + 12 ≤ R.locals) (hd : decode cc pc = .ok (.invokespecial idx, 3)) (kk : G p l e R s m args below meth c D E A nL Q σ ex cells slots (pc + 3) lv (rest)) : G p l e R s m args below meth c D E A nL Q σ ex cells slots (pc) lv (.ref a :: rest) := fun H locs ls hw hs hl =>
  W.objInit C.1 C.2.1 C.2.2.1 (C.2.2.2.1 _ h1) (C.2.2.2.1 _ h2) (C.2.2.2.1 _ h3) rfl (by rw [C.2.2.2.2.1]; exact hl.1) rfl hd hR (by show 2 * 0 + _ + 12 ≤ _; omega) (kk H locs ls hw hs hl)
end HeapG
