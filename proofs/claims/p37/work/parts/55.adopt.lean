/-! A loose cell becomes the next one of its kind. -/
theorem wld_adopt {D : va_G} {E : Nat → ClassId} {A : Nat → Prop} {σ σ' : RS} {ex ex' : va_W} {H : Heap} {k i q n : Nat} {x : va_E} (h : wld D E A σ ex H) (hn : ex[n]? = some (q, x)) (hi : i = rC σ k) (hk5 : k ≠ 5)
    (hC : rC σ' = up1 (rC σ) k (i + 1)) (hA : rA σ' = up2 (rA σ) k i q) (hN5 : ∀ j, rN σ' 5 j = rN σ 5 j) (hx : ct E σ' k i = x) (hold : ∀ k' i', live σ k' i' → ct E σ' k' i' = ct E σ k' i') (hq : A q)
    (is : List Nat) (hnd : va_nd is = true) (hs : is.map (fun i => ex[i]?) = ex'.map some) (hnin : ∀ j ∈ is, j ≠ n) : wld D E A σ' ex' H := by
  have hL : ∀ k' i', live σ' k' i' → live σ k' i' ∨ (k' = k ∧ i' = i) := fun k' i' hl => by
    obtain ⟨h1, h2⟩ := hl
    have h1' : i' < rC σ' k' := h1
    rw [hC] at h1'
    by_cases hk : k' = k
    · subst hk
      rw [up1_s] at h1'
      by_cases hii : i' = i
      · exact Or.inr ⟨rfl, hii⟩
      · exact Or.inl ⟨by omega, fun e => absurd e hk5⟩
    · rw [up1_n _ _ hk] at h1'
      refine Or.inl ⟨h1', fun e => ?_⟩
      have h3 : rN σ' 5 i' ≠ 0 := h2 e
      rw [hN5] at h3
      exact h3
  have hne : ∀ k' i', live σ k' i' → ¬ (k' = k ∧ i' = i) := fun k' i' hl e => by
    obtain ⟨rfl, rfl⟩ := e
    have h1 := hl.1
    omega
  have hAo : ∀ k' i', live σ k' i' → rA σ' k' i' = rA σ k' i' := fun k' i' hl => by rw [hA, up2_n _ _ (hne k' i' hl)]
  have hAn : rA σ' k i = q := by rw [hA, up2_s]
  have hat := h.2.2.1 n _ hn
  have key : ∀ (j : Nat) p, ex'[j]? = some p → ∃ m, is[j]? = some m ∧ ex[m]? = some p := fun j p hp => by
    have h1 : (is.map (fun i => ex[i]?))[j]? = some (some p) := by rw [hs, List.getElem?_map, hp]; rfl
    rw [List.getElem?_map] at h1
    cases hi : is[j]? with
    | none => rw [hi] at h1; cases h1
    | some m => rw [hi] at h1; exact ⟨m, rfl, Option.some.inj h1⟩
  have h0 := wld_sub h is hnd hs
  refine ⟨fun k' i' hl => ?_, fun k1 i1 k2 i2 l1 l2 e => ?_, fun j p hp => ⟨(h0.2.2.1 j p hp).1, fun k' i' hl e => ?_⟩, h0.2.2.2⟩
  · rcases hL k' i' hl with h1 | ⟨rfl, rfl⟩
    · rw [hAo _ _ h1, hold _ _ h1]
      exact h.1 _ _ h1
    · rw [hAn, hx]
      exact ⟨vA.of hat.1, fun _ _ => hq⟩
  · rcases hL _ _ l1 with h1 | ⟨rfl, rfl⟩ <;> rcases hL _ _ l2 with h2 | ⟨rfl, rfl⟩
    · rw [hAo _ _ h1, hAo _ _ h2] at e
      exact h.2.1 _ _ _ _ h1 h2 e
    · rw [hAo _ _ h1, hAn] at e
      exact absurd e (hat.2 _ _ h1)
    · rw [hAo _ _ h2, hAn] at e
      exact absurd e.symm (hat.2 _ _ h2)
    · exact ⟨rfl, rfl⟩
  · obtain ⟨m, hm, hp2⟩ := key j p hp
    rcases hL _ _ hl with h1 | ⟨rfl, rfl⟩
    · rw [hAo _ _ h1] at e
      exact (h.2.2.1 m p hp2).2 _ _ h1 e
    · rw [hAn] at e
      exact hnin m (List.mem_of_getElem? hm) (h.2.2.2 _ _ _ _ hp2 hn e.symm)
theorem eK_lit (k i : Nat) : eK k i = 25 ∨ eK k i = 6 ∨ eK k i = 23 ∨ eK k i = 20 := by
  unfold eK
  split
  · exact Or.inl rfl
  · split
    · exact Or.inr (Or.inl rfl)
    · exact Or.inr (Or.inl rfl)
    · exact Or.inr (Or.inr (Or.inl rfl))
    · exact Or.inr (Or.inr (Or.inr rfl))
set_option maxHeartbeats 4000000 in
theorem ctg_A (E : Nat → ClassId) (f : Nat → Int32) (N : Nat → Nat → Nat) (p : Nat → Nat) (A : Nat → Nat → Nat) {k i q k' i' : Nat} (hk : k = 6 ∨ k = 8 ∨ k = 20 ∨ k = 21 ∨ k = 23) (h8 : k = 8 → k' = 6 → i' ≠ i) (h20 : k = 20 → k' = 23 → p 0 ≠ i) (h21 : k = 21 → k' = 20 → 2 * i' ≠ i ∧ 2 * i' + 1 ≠ i) (hE : (knd k' = 3 ∨ knd k' = 4) → eK k' i' = k → ∀ j, p j ≠ 0 → p j - 1 ≠ i) : ctg E f N p (up2 A k i q) k' i' = ctg E f N p A k' i' := by
  unfold ctg
  split
  · congr 2
    unfold fvs
    rcases hk with rfl | rfl | rfl | rfl | rfl <;> split <;> first | rfl | (simp [up2, up1]; done) | (simp [up2, up1, h8 rfl rfl]; done) | (simp [up2, up1, h20 rfl rfl]; done) | (simp [up2, up1, (h21 rfl rfl).1, (h21 rfl rfl).2]; done)
  · rfl
  · rfl
  · rename_i h3
    refine congrArg (fun f => (Sum.inl (E 2, N k' i', Sum.inr (Sum.inr (Sum.inr (Sum.inr f)))) : va_E)) (funext fun j => ?_)
    by_cases hj : p j = 0
    · rw [if_pos hj, if_pos hj]
    · rw [if_neg hj, if_neg hj, up2_n _ _ (fun e => hE (Or.inl h3) e.1 j hj e.2)]
  · rename_i h4
    refine congrArg (fun f => (Sum.inl (E 3, N k' i', Sum.inr (Sum.inr (Sum.inr (Sum.inr f)))) : va_E)) (funext fun j => ?_)
    by_cases hj : p j = 0
    · rw [if_pos hj, if_pos hj]
    · rw [if_neg hj, if_neg hj, up2_n _ _ (fun e => hE (Or.inr h4) e.1 j hj e.2)]
  · rfl
theorem ctg_N (E : Nat → ClassId) (f : Nat → Int32) (N : Nat → Nat → Nat) (p : Nat → Nat) (A : Nat → Nat → Nat) {k i v k' i' : Nat} (hk5 : k ≠ 5) (hne : ¬ (k' = k ∧ i' = i)) : ctg E f (up2 N k i v) p A k' i' = ctg E f N p A k' i' := by
  have e1 : up2 N k i v k' i' = N k' i' := up2_n _ _ hne
  have e2 : up2 N k i v 5 = N 5 := up2_k N v (fun e => hk5 e.symm)
  unfold ctg fvs
  rw [e1, e2]
/-- every reference that an array holds to a kind is to one that is there -/
def rfO (μ : MP) (ν : NC) (κ : Nat) : Prop := ∀ k' i' j, (knd k' = 3 ∨ knd k' = 4) → eK k' i' = κ → μ.2 k' i' j ≤ ν.2 κ
def mF (kind sentAt : Int32) : Nat → Int32 := fun j => match j with
  | 0 => kind
  | 1 => sentAt
  | _ => 0
def nwMsg (μ : MP) (ν : NC) (kind number sentAt : Int32) (nb : Nat) (fb : Nat → Int32) : MP × NC :=
  ((up2 (up2 μ.1 8 (ν.2 8) (msgF kind number nb fb)) 6 (ν.2 6) (mF kind sentAt), μ.2), chg (up2 ν.1 8 (ν.2 8) (nb + 6), up1 (up1 ν.2 8 (ν.2 8 + 1)) 6 (ν.2 6 + 1)) 3 (nb + 14))
def nwMsgOk (μ : MP) (ν : NC) (nb : Nat) : Prop := ν.2 6 = ν.2 8 ∧ rfO μ ν 6 ∧ nb ≤ 4194304
theorem mn_msg (μ : MP) (ν : NC) (kind number sentAt : Int32) (nb : Nat) (fb : Nat → Int32) : mn ν (nwMsg μ ν kind number sentAt nb fb).2 :=
  mn_trans (mn_trans (mn_trans (mn_N (k := 8) (i := ν.2 8) (v := nb + 6) (by omega)) (mn_C (ν := (up2 ν.1 8 (ν.2 8) (nb + 6), ν.2)) (k := 8) (v := ν.2 8 + 1) (by omega) (Nat.le_succ _))) (mn_C (ν := (up2 ν.1 8 (ν.2 8) (nb + 6), up1 ν.2 8 (ν.2 8 + 1))) (k := 6) (v := ν.2 6 + 1) (by omega) (by show up1 ν.2 8 (ν.2 8 + 1) 6 ≤ ν.2 6 + 1; rw [up1_n _ _ (by decide)]; omega))) (mn_chg _ _ _)
theorem kc_msg (μ : MP) (ν : NC) (kind number sentAt : Int32) (nb : Nat) (fb : Nat → Int32) : kc (nwMsg μ ν kind number sentAt nb fb).2 = kc ν + 3 ∧ ks (nwMsg μ ν kind number sentAt nb fb).2 = ks ν + (nb + 14) := by
  unfold nwMsg
  refine ⟨(kc_chg _ _ _).trans ?_, (ks_chg _ _ _).trans ?_⟩
  · exact congrArg (· + 3) (congrFun (up2_k (i := ν.2 8) ν.1 (nb + 6) (show 98 ≠ 8 by decide)) 0)
  · exact congrArg (· + (nb + 14)) (congrFun (up2_k (i := ν.2 8) ν.1 (nb + 6) (show 98 ≠ 8 by decide)) 1)
theorem mx_up2_n (M : Nat → Nat → Nat → Int32) (a : AS) {k i k' i' : Nat} (f : Nat → Int32) (hk : Nat.ble k 39 = true) (hne : ¬ (k' = k ∧ i' = i)) : mx (up2 M k i f) a k' i' = mx M a k' i' := by
  rw [← mx_cl2 _ _ _ _ hk, up2_n _ _ hne]
theorem wld_msg {D : va_G} {E : Nat → ClassId} {A : Nat → Prop} {μ : MP} {ν : NC} {a : AS} {Ad : Nat → Nat → Nat} {H : Heap} {q qr nb : Nat} {kind number sentAt : Int32} {fb : Nat → Int32} (hok : nwMsgOk μ ν nb) (hq : A q) (hqr : A qr)
    (h : wld D E A (zS μ ν a Ad) [(q, .inr (6, [.int kind, .int sentAt, .ref qr, .int 0])), (qr, .inl (E 0, nb + 6, .inl (msgF kind number nb fb)))] H) :
    wld D E A (zS (nwMsg μ ν kind number sentAt nb fb).1 (nwMsg μ ν kind number sentAt nb fb).2 a (up2 (up2 Ad 8 (ν.2 8) qr) 6 (ν.2 6) q)) [] H := by
  obtain ⟨h68, hrf, -⟩ := hok
  have h1 := wld_adopt (σ' := zS (up2 μ.1 8 (ν.2 8) (msgF kind number nb fb), μ.2) (up2 ν.1 8 (ν.2 8) (nb + 6), up1 ν.2 8 (ν.2 8 + 1)) a (up2 Ad 8 (ν.2 8) qr)) (ex' := [(q, .inr (6, [.int kind, .int sentAt, .ref qr, .int 0]))]) (k := 8) (i := ν.2 8) (n := 1) h rfl rfl (by decide) rfl rfl (fun j => congrFun (up2_k (i := ν.2 8) ν.1 (nb + 6) (show 5 ≠ 8 by decide)) j)
    (by
      show (Sum.inl (E 0, up2 ν.1 8 (ν.2 8) (nb + 6) 8 (ν.2 8), Sum.inl (mx (up2 μ.1 8 (ν.2 8) (msgF kind number nb fb)) a 8 (ν.2 8))) : va_E) = _
      rw [up2_s, mx_lo _ _ (show Nat.ble 8 39 = true from rfl), up2_s])
    (fun k' i' hl => by
      have hl1 : i' < ν.2 k' := hl.1
      have hne : ¬ (k' = 8 ∧ i' = ν.2 8) := fun e => by rw [e.1, e.2] at hl1; omega
      show ctg E (mx (up2 μ.1 8 (ν.2 8) (msgF kind number nb fb)) a k' i') (up2 ν.1 8 (ν.2 8) (nb + 6)) (μ.2 k' i') (up2 Ad 8 (ν.2 8) qr) k' i' = ctg E (mx μ.1 a k' i') ν.1 (μ.2 k' i') Ad k' i'
      rw [mx_up2_n _ _ _ rfl hne, ctg_N _ _ _ _ _ (by decide) hne, ctg_A _ _ _ _ _ (Or.inr (Or.inl rfl)) (fun _ e => by rw [e] at hl1; omega) (fun e => absurd e (by decide)) (fun e => absurd e (by decide)) (fun _ e => by have := eK_lit k' i'; omega)])
    hqr [0] rfl rfl (fun j h => by simp at h; omega)
  refine wld_chg 3 (nb + 14) (wld_adopt (σ' := zS (up2 (up2 μ.1 8 (ν.2 8) (msgF kind number nb fb)) 6 (ν.2 6) (mF kind sentAt), μ.2) (up2 ν.1 8 (ν.2 8) (nb + 6), up1 (up1 ν.2 8 (ν.2 8 + 1)) 6 (ν.2 6 + 1)) a (up2 (up2 Ad 8 (ν.2 8) qr) 6 (ν.2 6) q)) (ex' := []) (k := 6) (i := ν.2 6) (n := 0) h1 rfl (by show ν.2 6 = up1 ν.2 8 (ν.2 8 + 1) 6; rw [up1_n _ _ (by decide)]) (by decide) rfl rfl (fun j => rfl) ?_ (fun k' i' hl => ?_) hq [] rfl rfl (fun j h => by simp at h))
  · show (Sum.inr (6, [Value.int (mx (up2 (up2 μ.1 8 (ν.2 8) (msgF kind number nb fb)) 6 (ν.2 6) (mF kind sentAt)) a 6 (ν.2 6) 0), .int (mx (up2 (up2 μ.1 8 (ν.2 8) (msgF kind number nb fb)) 6 (ν.2 6) (mF kind sentAt)) a 6 (ν.2 6) 1), .ref (up2 (up2 Ad 8 (ν.2 8) qr) 6 (ν.2 6) q 8 (ν.2 6)), .int (mx (up2 (up2 μ.1 8 (ν.2 8) (msgF kind number nb fb)) 6 (ν.2 6) (mF kind sentAt)) a 6 (ν.2 6) 3)]) : va_E) = _
    rw [mx_lo _ _ (show Nat.ble 6 39 = true from rfl), up2_s, up2_n _ _ (by omega), h68, up2_s]
    rfl
  · have hl1 : i' < up1 ν.2 8 (ν.2 8 + 1) k' := hl.1
    have hne : ¬ (k' = 6 ∧ i' = ν.2 6) := fun e => by rw [e.1, e.2, up1_n _ _ (by decide)] at hl1; omega
    show ctg E (mx (up2 (up2 μ.1 8 (ν.2 8) (msgF kind number nb fb)) 6 (ν.2 6) (mF kind sentAt)) a k' i') _ (μ.2 k' i') (up2 (up2 Ad 8 (ν.2 8) qr) 6 (ν.2 6) q) k' i' = ctg E (mx (up2 μ.1 8 (ν.2 8) (msgF kind number nb fb)) a k' i') (up2 ν.1 8 (ν.2 8) (nb + 6)) (μ.2 k' i') (up2 Ad 8 (ν.2 8) qr) k' i'
    rw [mx_up2_n _ _ _ rfl hne, ctg_A _ _ _ _ _ (Or.inl rfl) (fun e => absurd e (by decide)) (fun e => absurd e (by decide)) (fun e => absurd e (by decide)) (fun h3 e j hj => by have := hrf k' i' j h3 e; omega)]
theorem kp_msg {ν : NC} {Ad : Nat → Nat → Nat} (qr q : Nat) : kp ν Ad (up2 (up2 Ad 8 (ν.2 8) qr) 6 (ν.2 6) q) := kp_trans (kp_new (k := 8) (by omega) (Nat.le_refl _)) (mn_rfl ν) (kp_new (k := 6) (by omega) (Nat.le_refl _))
section AdG
variable {p : Program} {l : Launch} {e : Env} {R : Room} {s : State} {m : MethodId} {args : Array Value} {below : List Frame} {meth : Method} {c : Code} {D : va_G} {E : Nat → ClassId} {A : Nat → Prop} {cc : ByteArray} {nL : Nat} {own : String} {Q : State → Prop}
variable {μ : MP} {ν : NC} {a : AS} {Ad : Nat → Nat → Nat} {σ : RS} {ex : va_W} {cells slots pc : Nat} {lv : List (Nat × Value)} {rest : List Value}
theorem g_adM {q qr nb : Nat} {kind number sentAt : Int32} {fb : Nat → Int32} (hok : nwMsgOk μ ν nb) (hq : A q) (hqr : A qr) (kk : G p l e R s m args below meth c D E A nL Q (zS (nwMsg μ ν kind number sentAt nb fb).1 (nwMsg μ ν kind number sentAt nb fb).2 a (up2 (up2 Ad 8 (ν.2 8) qr) 6 (ν.2 6) q)) [] cells slots pc lv rest) : G p l e R s m args below meth c D E A nL Q (zS μ ν a Ad) [(q, .inr (6, [.int kind, .int sentAt, .ref qr, .int 0])), (qr, .inl (E 0, nb + 6, .inl (msgF kind number nb fb)))] cells slots pc lv rest := fun H locs ls hw hs hl => kk H locs ls (wld_msg hok hq hqr hw) hs hl
end AdG
/-! lists -/
def lsOk (μ : MP) (ν : NC) (i v : Nat) : Prop := i < ν.2 4 ∧ i < ν.2 5 ∧ ¬ μ.1 4 i 2 < 0 ∧ (μ.1 4 i 2).toNatClampNeg ≤ ν.1 5 i ∧ ν.1 5 i ≤ 2097152 ∧ 0 < ν.2 31 ∧ ν.1 31 0 = 0 ∧ v < ν.2 (eK 5 i) ∧ ∀ z, μ.2 5 i z ≤ ν.2 (eK 5 i)
def lsK (ν : NC) (i : Nat) : Nat := if 1 < ν.1 5 i / 2 ^ 1 then ν.1 5 i / 2 ^ 1 else 1
def lsM (μ : MP) (i n : Nat) (p : Nat → Nat) : MP := (up3 (up3 μ.1 4 i 0 (μ.1 4 i 0 + 1)) 4 i 2 (nI (n + 1)), up2 μ.2 5 i p)
def lsG (μ : MP) (ν : NC) (i : Nat) : Nat → Nat := fun z => if z < ν.1 5 i then μ.2 5 i z else 0
noncomputable def f_Jx4a65c_add_9ea2d (w : Nat) (μ : MP) (ν : NC) (i p : Nat) : Option ((MP × NC) × Int32) :=
  @ite _ (0 < p ∧ lsOk μ ν i (p - 1)) (Classical.propDecidable _) (if (μ.1 4 i 2).toNatClampNeg < ν.1 5 i then some ((lsM μ i (μ.1 4 i 2).toNatClampNeg (up1 (μ.2 5 i) (μ.1 4 i 2).toNatClampNeg p), ν), 1)
    else if ν.1 5 i = 0 then some ((lsM μ i 0 (up1 (fun _ => 0) 0 p), chg (up2 ν.1 5 i 10, ν.2) 1 10), 1)
    else some ((lsM μ i (ν.1 5 i) (up1 (lsG μ ν i) (ν.1 5 i) p), chg (up2 ν.1 5 i (ν.1 5 i + lsK ν i), ν.2) 1 (ν.1 5 i + lsK ν i)), 1)) none
theorem m_Jx4a65c_add_9ea2d {w : Nat} {μ : MP} {ν : NC} {i p : Nat} {r0 : (MP × NC) × Int32} (h : f_Jx4a65c_add_9ea2d w μ ν i p = some r0) : mn ν r0.1.2 := by
  obtain ⟨-, h⟩ := of_guardP h
  split at h
  · obtain rfl := Option.some.inj h; exact mn_rfl ν
  · split at h
    · obtain rfl := Option.some.inj h; exact mn_trans (mn_N (k := 5) (i := i) (v := 10) (by omega)) (mn_chg _ _ _)
    · obtain rfl := Option.some.inj h; exact mn_trans (mn_N (k := 5) (i := i) (v := ν.1 5 i + lsK ν i) (by omega)) (mn_chg _ _ _)
theorem adS_z (μ : MP) (ν : NC) (a : AS) (Ad : Nat → Nat → Nat) (i n N : Nat) (p : Nat → Nat) (q : Nat) : adS (zS μ ν a Ad) i n N p q = zS (lsM μ i n p) (up2 ν.1 5 i N, ν.2) a (up2 Ad 5 i q) := by
  show (up3 (up3 (mx μ.1 a) 4 i 0 (mx μ.1 a 4 i 0 + 1)) 4 i 2 (nI (n + 1)), up2 ν.1 5 i N, up2 μ.2 5 i p, ν.2, up2 Ad 5 i q) = _
  rw [mx_lo μ.1 a (show Nat.ble 4 39 = true from rfl), mx_cl _ _ _ _ _ rfl, mx_cl _ _ _ _ _ rfl]
  rfl
theorem kc_5 (ν : NC) (i v c s : Nat) : kc (chg (up2 ν.1 5 i v, ν.2) c s) - kc ν = c ∧ ks (chg (up2 ν.1 5 i v, ν.2) c s) - ks ν = s := by
  have k1 : kc (up2 ν.1 5 i v, ν.2) = kc ν := congrFun (up2_k (i := i) ν.1 v (show 98 ≠ 5 by decide)) 0
  have k2 : ks (up2 ν.1 5 i v, ν.2) = ks ν := congrFun (up2_k (i := i) ν.1 v (show 98 ≠ 5 by decide)) 1
  rw [kc_chg, ks_chg, k1, k2]
  omega
theorem c_Jx4a65c_add_9ea2d (l : Launch) (B : Nat × (Nat → Nat)) (μ : MP) (ν : NC) (a : AS) (Ad : Nat → Nat → Nat) (w i p : Nat) (r0 : (MP × NC) × Int32) (h : f_Jx4a65c_add_9ea2d w μ ν i p = some r0) : ∀ D E sz, Met l yJx4a65c_add_9ea2d gwJx4a65c_add_9ea2d ({ frames := 6, cells := kc r0.1.2 - kc ν, slots := ks r0.1.2 - ks ν, locals := 200 } : Room) (cPe D E sz B (zS μ ν a Ad) [] [] [.ref (Ad 4 i), nv (Ad (eK 5 i)) p]) (cQ D E sz (zS μ ν a Ad) [] (pI (fun r u => r = r0.2 ∧ ∃ A1, u = (zS r0.1.1 r0.1.2 a A1, []) ∧ kp ν Ad A1))) (kc r0.1.2 - kc ν) (ks r0.1.2 - ks ν) (Aof (zS μ ν a Ad) [] sz) := by
  intro D E sz
  obtain ⟨⟨g0, g1, g2, g3, g4, g5, g6, g7, g8, g9⟩, h⟩ := of_guardP h
  obtain ⟨v, rfl⟩ : ∃ v, p = v + 1 := ⟨p - 1, by omega⟩
  obtain ⟨n, hn, e2⟩ := nI_of g3
  rw [show (μ.1 4 i 2).toNatClampNeg = n by rw [e2, nI_clamp hn]] at g4 h
  have l4 : live (zS μ ν a Ad) 4 i := ⟨g1, fun e => absurd e (by decide)⟩
  have hle : live (zS μ ν a Ad) (eK 5 i) v := ⟨g8, fun e => absurd e (eK5 i)⟩
  have l31 : live (zS μ ν a Ad) 31 0 := ⟨g6, fun e => absurd e (by decide)⟩
  have hel : ∀ j : Nat, j < ν.1 5 i → μ.2 5 i j ≠ 0 → live (zS μ ν a Ad) (eK 5 i) (μ.2 5 i j - 1) := fun j _ hj => ⟨by have := g9 j; show μ.2 5 i j - 1 < ν.2 (eK 5 i); omega, fun e => absurd e (eK5 i)⟩
  by_cases c1 : n < ν.1 5 i
  · rw [if_pos c1] at h
    obtain rfl := Option.some.inj h
    rw [show kc ν - kc ν = 0 from Nat.sub_self _, show ks ν - ks ν = 0 from Nat.sub_self _]
    refine Met_mono (ka_a l B (zS μ ν a Ad) i v n l4 hle g2 e2 g5 l31 g7 hel c1 D E sz) (fun _ _ q => q) (cQ_mono fun v u t0 hp hb => ?_)
    obtain ⟨r, rfl, rfl, rfl⟩ := hp
    rw [adS_z] at hb
    rw [show rN (zS μ ν a Ad) 5 i = ν.1 5 i from rfl, up2_self, show rA (zS μ ν a Ad) 5 i = Ad 5 i from rfl, up2_self] at hb
    exact ⟨_, ⟨_, rfl, rfl, Ad, rfl, kp_rfl _ _⟩, hb⟩
  · rw [if_neg c1] at h
    by_cases c2 : ν.1 5 i = 0
    · rw [if_pos c2] at h
      obtain rfl := Option.some.inj h
      rw [(kc_5 ν i 10 1 10).1, (kc_5 ν i 10 1 10).2]
      have hn0 : n = 0 := by omega
      subst hn0
      refine Met_mono (ka_b l B (zS μ ν a Ad) i v l4 hle g2 e2 g5 l31 g7 hel c2 D E sz) (fun _ _ q => q) (cQ_mono fun v u t0 hp hb => ?_)
      obtain ⟨r, rfl, rfl, q, rfl⟩ := hp
      rw [adS_z] at hb
      exact ⟨_, ⟨_, rfl, rfl, _, rfl, kp_up (k := 5) rfl⟩, cB_chg 1 10 hb⟩
    · rw [if_neg c2] at h
      obtain rfl := Option.some.inj h
      rw [(kc_5 ν i _ 1 _).1, (kc_5 ν i _ 1 _).2]
      have hn0 : n = ν.1 5 i := by omega
      subst hn0
      refine Met_mono (ka_c l B (zS μ ν a Ad) i v l4 hle g2 e2 g5 l31 g7 hel c2 (lsK ν i) rfl D E sz) (fun _ _ q => q) (cQ_mono fun v u t0 hp hb => ?_)
      obtain ⟨r, rfl, rfl, q, rfl⟩ := hp
      rw [adS_z] at hb
      exact ⟨_, ⟨_, rfl, rfl, _, rfl, kp_up (k := 5) rfl⟩, cB_chg 1 _ hb⟩
noncomputable def f_Jx4a65c_add_7a177 (w : Nat) (μ : MP) (ν : NC) (i : Nat) (x : Int32) (p : Nat) : Option ((MP × NC) × Int32) :=
  @ite _ (0 < p ∧ lsOk μ ν i (p - 1) ∧ ¬ x < 0 ∧ x.toNatClampNeg ≤ (μ.1 4 i 2).toNatClampNeg) (Classical.propDecidable _) (if (μ.1 4 i 2).toNatClampNeg < ν.1 5 i then some ((lsM μ i (μ.1 4 i 2).toNatClampNeg (inP (μ.2 5 i) x.toNatClampNeg (μ.1 4 i 2).toNatClampNeg p), ν), 0)
    else if ν.1 5 i = 0 then some ((lsM μ i 0 (inP (fun _ => 0) x.toNatClampNeg 0 p), chg (up2 ν.1 5 i 10, ν.2) 1 10), 0)
    else some ((lsM μ i (ν.1 5 i) (inP (lsG μ ν i) x.toNatClampNeg (ν.1 5 i) p), chg (up2 ν.1 5 i (ν.1 5 i + lsK ν i), ν.2) 1 (ν.1 5 i + lsK ν i)), 0)) none
theorem m_Jx4a65c_add_7a177 {w : Nat} {μ : MP} {ν : NC} {i : Nat} {x : Int32} {p : Nat} {r0 : (MP × NC) × Int32} (h : f_Jx4a65c_add_7a177 w μ ν i x p = some r0) : mn ν r0.1.2 := by
  obtain ⟨-, h⟩ := of_guardP h
  split at h
  · obtain rfl := Option.some.inj h; exact mn_rfl ν
  · split at h
    · obtain rfl := Option.some.inj h; exact mn_trans (mn_N (k := 5) (i := i) (v := 10) (by omega)) (mn_chg _ _ _)
    · obtain rfl := Option.some.inj h; exact mn_trans (mn_N (k := 5) (i := i) (v := ν.1 5 i + lsK ν i) (by omega)) (mn_chg _ _ _)
theorem c_Jx4a65c_add_7a177 (l : Launch) (B : Nat × (Nat → Nat)) (μ : MP) (ν : NC) (a : AS) (Ad : Nat → Nat → Nat) (w i : Nat) (x : Int32) (p : Nat) (r0 : (MP × NC) × Int32) (h : f_Jx4a65c_add_7a177 w μ ν i x p = some r0) : ∀ D E sz, Met l yJx4a65c_add_7a177 gwJx4a65c_add_7a177 ({ frames := 6, cells := kc r0.1.2 - kc ν, slots := ks r0.1.2 - ks ν, locals := 200 } : Room) (cPe D E sz B (zS μ ν a Ad) [] [] [.ref (Ad 4 i), .int x, nv (Ad (eK 5 i)) p]) (cQ D E sz (zS μ ν a Ad) [] (pV (fun u => ∃ A1, u = (zS r0.1.1 r0.1.2 a A1, []) ∧ kp ν Ad A1))) (kc r0.1.2 - kc ν) (ks r0.1.2 - ks ν) (Aof (zS μ ν a Ad) [] sz) := by
  intro D E sz
  obtain ⟨⟨g0, ⟨g1, g2, g3, g4, g5, g6, g7, g8, g9⟩, g10, g11⟩, h⟩ := of_guardP h
  obtain ⟨v, rfl⟩ : ∃ v, p = v + 1 := ⟨p - 1, by omega⟩
  obtain ⟨n, hn, e2⟩ := nI_of g3
  obtain ⟨j, hj, rfl⟩ := nI_of g10
  rw [show (μ.1 4 i 2).toNatClampNeg = n by rw [e2, nI_clamp hn]] at g4 g11 h
  rw [nI_clamp hj] at g11 h
  have l4 : live (zS μ ν a Ad) 4 i := ⟨g1, fun e => absurd e (by decide)⟩
  have hle : live (zS μ ν a Ad) (eK 5 i) v := ⟨g8, fun e => absurd e (eK5 i)⟩
  have l31 : live (zS μ ν a Ad) 31 0 := ⟨g6, fun e => absurd e (by decide)⟩
  have hel : ∀ j : Nat, j < ν.1 5 i → μ.2 5 i j ≠ 0 → live (zS μ ν a Ad) (eK 5 i) (μ.2 5 i j - 1) := fun j _ hj => ⟨by have := g9 j; show μ.2 5 i j - 1 < ν.2 (eK 5 i); omega, fun e => absurd e (eK5 i)⟩
  by_cases c1 : n < ν.1 5 i
  · rw [if_pos c1] at h
    obtain rfl := Option.some.inj h
    rw [show kc ν - kc ν = 0 from Nat.sub_self _, show ks ν - ks ν = 0 from Nat.sub_self _]
    refine Met_mono (ki_a l B (zS μ ν a Ad) i j v n l4 hle g2 e2 g11 g5 l31 g7 hel c1 D E sz) (fun _ _ q => q) (cQ_mono fun v u t0 hp hb => ?_)
    obtain ⟨rfl, rfl⟩ := hp
    rw [adS_z] at hb
    rw [show rN (zS μ ν a Ad) 5 i = ν.1 5 i from rfl, up2_self, show rA (zS μ ν a Ad) 5 i = Ad 5 i from rfl, up2_self] at hb
    exact ⟨_, ⟨rfl, Ad, rfl, kp_rfl _ _⟩, hb⟩
  · rw [if_neg c1] at h
    by_cases c2 : ν.1 5 i = 0
    · rw [if_pos c2] at h
      obtain rfl := Option.some.inj h
      rw [(kc_5 ν i 10 1 10).1, (kc_5 ν i 10 1 10).2]
      have hn0 : n = 0 := by omega
      subst hn0
      refine Met_mono (ki_b l B (zS μ ν a Ad) i j v l4 hle g2 e2 g11 g5 l31 g7 hel c2 D E sz) (fun _ _ q => q) (cQ_mono fun v u t0 hp hb => ?_)
      obtain ⟨rfl, q, rfl⟩ := hp
      rw [adS_z] at hb
      exact ⟨_, ⟨rfl, _, rfl, kp_up (k := 5) rfl⟩, cB_chg 1 10 hb⟩
    · rw [if_neg c2] at h
      obtain rfl := Option.some.inj h
      rw [(kc_5 ν i _ 1 _).1, (kc_5 ν i _ 1 _).2]
      have hn0 : n = ν.1 5 i := by omega
      subst hn0
      refine Met_mono (ki_c l B (zS μ ν a Ad) i j v l4 hle g2 e2 g11 g5 l31 g7 hel c2 (lsK ν i) rfl D E sz) (fun _ _ q => q) (cQ_mono fun v u t0 hp hb => ?_)
      obtain ⟨rfl, q, rfl⟩ := hp
      rw [adS_z] at hb
      exact ⟨_, ⟨rfl, _, rfl, kp_up (k := 5) rfl⟩, cB_chg 1 _ hb⟩
noncomputable def f_Jx4a65c_remove_915e3 (w : Nat) (μ : MP) (ν : NC) (i : Nat) (x : Int32) : Option ((MP × NC) × Nat) :=
  @ite _ (lsOk μ ν i 0 ∧ ¬ x < 0 ∧ x.toNatClampNeg < (μ.1 4 i 2).toNatClampNeg ∧ 0 < μ.2 5 i x.toNatClampNeg) (Classical.propDecidable _) (some (((up3 (up3 μ.1 4 i 0 (μ.1 4 i 0 + 1)) 4 i 2 (nI ((μ.1 4 i 2).toNatClampNeg - 1)), up2 μ.2 5 i (rmP (μ.2 5 i) x.toNatClampNeg ((μ.1 4 i 2).toNatClampNeg - 1))), ν), μ.2 5 i x.toNatClampNeg)) none
theorem m_Jx4a65c_remove_915e3 {w : Nat} {μ : MP} {ν : NC} {i : Nat} {x : Int32} {r0 : (MP × NC) × Nat} (h : f_Jx4a65c_remove_915e3 w μ ν i x = some r0) : mn ν r0.1.2 := by
  obtain ⟨-, h⟩ := of_guardP h
  obtain rfl := Option.some.inj h; exact mn_rfl ν
theorem c_Jx4a65c_remove_915e3 (l : Launch) (B : Nat × (Nat → Nat)) (μ : MP) (ν : NC) (a : AS) (Ad : Nat → Nat → Nat) (w i : Nat) (x : Int32) (r0 : (MP × NC) × Nat) (h : f_Jx4a65c_remove_915e3 w μ ν i x = some r0) : ∀ D E sz, Met l yJx4a65c_remove_915e3 gwJx4a65c_remove_915e3 ({ frames := 2, cells := kc r0.1.2 - kc ν, slots := ks r0.1.2 - ks ν, locals := 80 } : Room) (cPe D E sz B (zS μ ν a Ad) [] [] [.ref (Ad 4 i), .int x]) (cQ D E sz (zS μ ν a Ad) [] (pQ (fun r u => r = nv (Ad (eK 5 i)) r0.2 ∧ ∃ A1, u = (zS r0.1.1 r0.1.2 a A1, []) ∧ kp ν Ad A1))) (kc r0.1.2 - kc ν) (ks r0.1.2 - ks ν) (Aof (zS μ ν a Ad) [] sz) := by
  intro D E sz
  obtain ⟨⟨⟨g1, g2, g3, g4, g5, g6, g7, g8, g9⟩, g10, g11, g12⟩, h⟩ := of_guardP h
  obtain ⟨n, hn, e2⟩ := nI_of g3
  obtain ⟨j, hj, rfl⟩ := nI_of g10
  rw [show (μ.1 4 i 2).toNatClampNeg = n by rw [e2, nI_clamp hn]] at g4 g11 h
  rw [nI_clamp hj] at g11 g12 h
  obtain ⟨n1, rfl⟩ : ∃ n1, n = n1 + 1 := ⟨n - 1, by omega⟩
  obtain ⟨v, hv⟩ : ∃ v, μ.2 5 i j = v + 1 := ⟨μ.2 5 i j - 1, by omega⟩
  rw [show n1 + 1 - 1 = n1 from rfl] at h
  obtain rfl := Option.some.inj h
  have l4 : live (zS μ ν a Ad) 4 i := ⟨g1, fun e => absurd e (by decide)⟩
  have l5 : live (zS μ ν a Ad) 5 i := ⟨g2, fun _ => by show ν.1 5 i ≠ 0; omega⟩
  have hel : ∀ j : Nat, j < ν.1 5 i → μ.2 5 i j ≠ 0 → live (zS μ ν a Ad) (eK 5 i) (μ.2 5 i j - 1) := fun j _ hj => ⟨by have := g9 j; show μ.2 5 i j - 1 < ν.2 (eK 5 i); omega, fun e => absurd e (eK5 i)⟩
  rw [show kc ν - kc ν = 0 from Nat.sub_self _, show ks ν - ks ν = 0 from Nat.sub_self _]
  refine Met_mono (k_Jx4a65c_remove_915e3 l B (zS μ ν a Ad) i j n1 l4 l5 e2 (by omega) (by show n1 < ν.1 5 i; omega) g5 hel v hv D E sz) (fun _ _ q => q) (cQ_mono fun v' u t0 hp hb => ?_)
  obtain ⟨r, rfl, rfl, rfl⟩ := hp
  have e4 : rmS (zS μ ν a Ad) i j n1 = zS (up3 (up3 μ.1 4 i 0 (μ.1 4 i 0 + 1)) 4 i 2 (nI n1), up2 μ.2 5 i (rmP (μ.2 5 i) j n1)) ν a Ad := by
    show (up3 (up3 (mx μ.1 a) 4 i 0 (mx μ.1 a 4 i 0 + 1)) 4 i 2 (nI n1), ν.1, up2 μ.2 5 i (rmP (μ.2 5 i) j n1), ν.2, Ad) = _
    rw [mx_lo μ.1 a (show Nat.ble 4 39 = true from rfl), mx_cl _ _ _ _ _ rfl, mx_cl _ _ _ _ _ rfl]
  rw [e4] at hb
  exact ⟨_, ⟨_, rfl, by rw [hv]; rfl, Ad, rfl, kp_rfl _ _⟩, hb⟩
