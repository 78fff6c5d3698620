/-! What the house sets in an order's book. -/
variable {Hh : Nat → Nat}
theorem up1_t {α : Type} (f : Nat → α) (k : Nat) (x y : α) : up1 (up1 f k x) k y = up1 f k y := funext fun i => by
  unfold up1
  by_cases h : i = k
  · rw [if_pos h, if_pos h]
  · rw [if_neg h, if_neg h, if_neg h]
/-- a step that leaves the line as it is -/
theorem lr_m {b b' a a' : AS} (h : LR Hh b a) (hb : ∀ k, 2 ≤ k → k ≤ 7 → b' k = b k) (ha : ∀ k, k = 4 ∨ (11 ≤ k ∧ k ≤ 21) → a' k = a k) (p0 : L0 (a' 0 1) (a' 0 44)) (p1 : L1 (b' 1) (a' 0) (a' 3) (a' 4) (a' 5) (a' 7) (a' 8) (a' 9) (a' 10) (a' 20)) (p5 : L5 (b' 8) (b' 9) (b' 10) (b' 11) (a' 25) (a' 26) (a' 27) (a' 28)) (p6 : L6 (b' 12) (a' 0 22) (a' 23) (a' 24) (a' 29) (a' 30) (a' 31)) (p7 : L7 (b' 13) (a' 0 35) (a' 36) (a' 37) (a' 38) (a' 39) (a' 40) (a' 41) (a' 42) (a' 43)) (p8 : L8 (b' 14) (a' 33) (a' 34)) : LR Hh b' a' := by
  obtain ⟨l0, l1, l2, l3, l4, l5, l6, l7, l8⟩ := h
  refine ⟨p0, p1, fun t ht => ?_, fun t ht => ?_, fun t ht => ?_, p5, p6, p7, p8⟩
  · rw [hb _ (by omega) (by omega), ha 19 (by omega), ha 20 (by omega), ha 21 (by omega)]; exact l2 t ht
  · rw [hb _ (by omega) (by omega), ha 4 (by omega), ha 11 (by omega), ha 12 (by omega), ha 13 (by omega), ha 14 (by omega), ha 15 (by omega), ha 16 (by omega), ha 17 (by omega)]; exact l3 t ht
  · rw [hb _ (by omega) (by omega), ha 18 (by omega)]; exact l4 t ht
theorem LR_tnO {b a : AS} (h : LR Hh b a) : tn (a 0 22) ≤ 10 := by
  obtain ⟨O, e, hO⟩ := LR_O h
  rw [e, tnI (by omega)]; exact hO
theorem lr_has {b a : AS} {o : Nat} (h : LR Hh b a) (ho : o < tn (a 0 22)) : LR Hh (up2 b 12 o (b 12 o ||| (4 : Int32))) (up2 a 24 (40 + o) (nI 1)) := by
  have h10 := LR_tnO h
  obtain ⟨l0, l1, l2, l3, l4, l5, l6, l7, l8⟩ := h
  obtain ⟨-, se, kn, ha, le, un, rk, ⟨⟨g1, g2, g3, g4, g5, g6⟩, r1, r2, r3, r4, r5, r6⟩, e⟩ := L6_at l6 ho
  refine lr_m ⟨l0, l1, l2, l3, l4, l5, l6, l7, l8⟩ (fun k k1 k2 => up2_k _ _ (by omega)) (fun k hk => up2_k _ _ (by omega)) l0 l1 l5 ?_ l7 l8
  refine L6_set (o := o) (se := se) (kn := kn) (ha := 1) (le := le) (un := un) (rk := rk) l6 ho ?_ ⟨⟨g1, g2, by decide, g4, g5, g6⟩, r1, (up1_n _ _ (by omega)).trans r2, up1_s _ _ _, r4, r5, r6⟩ (fun i hi hne => by
    exact ⟨rfl, up1_n _ _ (show i ≠ 40 + o by omega), up1_n _ _ (show 40 + i ≠ 40 + o by omega), rfl, rfl, rfl⟩)
  show up1 (b 12) o (b 12 o ||| (4 : Int32)) = _
  rw [e, kc_4 g1 g2 g3 g4 g5 g6]
theorem kc_rk {se kn ha le un rk R : Nat} (h1 : se < 2) (h2 : kn < 2) (h3 : ha < 2) (h4 : le < 2) (h5 : un ≤ 5) (h6 : rk ≤ 10000) (hR : R ≤ 10000) : (nI (kcode se kn ha le un rk) &&& (255 : Int32)) ||| (nI R <<< ((8 : Int32) &&& 31)) = nI (kcode se kn ha le un R) := by
  rw [(kd_bits h1 h2 h3 h4 h5 h6).2.2.2.2.2.2, show (8 : Int32) = nI 8 from rfl, I_shl _ 8 (by decide)]
  have := I_ins 0 (kcode se kn ha le un 0) R 8 20 (by unfold kcode; omega) (by omega) (by unfold kcode; omega)
  rw [Nat.mul_zero, Nat.zero_add, Nat.zero_add] at this
  rw [this]
  congr 1
  unfold kcode
  omega
def bhB (b : AS) (o P Z R : Nat) : AS := up2 (up2 (up2 (up2 b 8 (10 + o) (nI P)) 9 (10 + o) (nI Z)) 12 o ((b 12 o &&& (255 : Int32)) ||| (nI R <<< ((8 : Int32) &&& 31)))) 1 21 (nI (R + 1))
theorem lr_behind {b a : AS} {o P Z R : Nat} (h : LR Hh b a) (ho : o < tn (a 0 22)) (hP : P ≤ 100) (hZ : Z ≤ 100) (eR : a 0 32 = nI R) (hR : R ≤ 10000) : LR Hh (bhB b o P Z R) (gBehind (up2 (up2 a 25 (40 + o) (nI P)) 26 (40 + o) (nI Z)) o) := by
  have h10 := LR_tnO h
  have e : gBehind (up2 (up2 a 25 (40 + o) (nI P)) 26 (40 + o) (nI Z)) o = up2 (up2 (up2 (up2 a 25 (40 + o) (nI P)) 26 (40 + o) (nI Z)) 31 o (nI R)) 0 32 (nI (R + 1)) := by
    have e2 : up2 (up2 a 25 (40 + o) (nI P)) 26 (40 + o) (nI Z) 0 32 = nI R := eR
    unfold gBehind
    rw [e2, show nI R + 1 = nI (R + 1) from nI_add R 1]
  rw [e]
  obtain ⟨l0, l1, l2, l3, l4, l5, l6, l7, l8⟩ := h
  obtain ⟨-, se, kn, ha, le, un, rk, ⟨⟨g1, g2, g3, g4, g5, g6⟩, r1, r2, r3, r4, r5, r6⟩, eb⟩ := L6_at l6 ho
  refine lr_m ⟨l0, l1, l2, l3, l4, l5, l6, l7, l8⟩ (fun k k1 k2 => by unfold bhB; rw [up2_k _ _ (by omega), up2_k _ _ (by omega), up2_k _ _ (by omega), up2_k _ _ (by omega)]) (fun k hk => by rw [up2_k _ _ (by omega), up2_k _ _ (by omega), up2_k _ _ (by omega), up2_k _ _ (by omega)]) l0 (L1_set l1 (Or.inr (Or.inr (Or.inr (Or.inl ⟨rfl, rfl⟩))))) ?_ ?_ l7 l8
  · exact L5_z (z := 1) (by omega) hZ (L5_p (z := 1) (by omega) hP l5)
  · refine L6_set (o := o) (se := se) (kn := kn) (ha := ha) (le := le) (un := un) (rk := R) l6 ho ?_ ⟨⟨g1, g2, g3, g4, g5, hR⟩, r1, r2, r3, r4, r5, up1_s _ _ _⟩ (fun i hi hne => ⟨rfl, rfl, rfl, rfl, rfl, up1_n _ _ hne⟩)
    show up1 (b 12) o ((b 12 o &&& (255 : Int32)) ||| (nI R <<< ((8 : Int32) &&& 31))) = _
    rw [eb, kc_rk g1 g2 g3 g4 g5 g6 hR]
theorem lr_out {b a : AS} {z o : Nat} {v : Int32} (h : LR Hh b a) (ho : o < 10) : LR Hh (up2 b 11 (10 * z + o) v) (up2 a 28 (40 * z + o) v) := by
  obtain ⟨l0, l1, l2, l3, l4, l5, l6, l7, l8⟩ := h
  exact lr_m ⟨l0, l1, l2, l3, l4, l5, l6, l7, l8⟩ (fun k k1 k2 => up2_k _ _ (by omega)) (fun k hk => up2_k _ _ (by omega)) l0 l1 (L5_o ho l5) l6 l7 l8
theorem lr_dn {b a : AS} {z o : Nat} {v : Int32} (h : LR Hh b a) (ho : o < 10) : LR Hh (up2 b 10 (10 * z + o) v) (up2 a 27 (40 * z + o) v) := by
  obtain ⟨l0, l1, l2, l3, l4, l5, l6, l7, l8⟩ := h
  exact lr_m ⟨l0, l1, l2, l3, l4, l5, l6, l7, l8⟩ (fun k k1 k2 => up2_k _ _ (by omega)) (fun k hk => up2_k _ _ (by omega)) l0 l1 (L5_d ho l5) l6 l7 l8
/-- a report, and what it leaves for the next -/
theorem lk_rep {w o σ x y n k : Nat} {b a : AS} (h : LR Hh b a) (ho : o < 10) (hσ : σ ≤ 6) (hx : x ≤ 100) (hy : y ≤ 100) (hu : a 0 2 = nI 0 ∨ a 0 2 = nI 1) (hg : rgo a 1 n k) (hN : n + 1 ≤ 63) (hc : k + 1 ≤ 240) : ∃ b', f_L_send w b (1 : Int32) (8 : Int32) (nI σ) (nI o) (nI x) (nI y) = some (b', 0) ∧ LR Hh b' (gRep a (nI σ) o (nI x) (nI y)) ∧ ∃ k', rgo (gRep a (nI σ) o (nI x) (nI y)) 1 (n + 1) k' ∧ k' ≤ k + 1 := by
  obtain ⟨k', g1, -, g2⟩ := gSends_rgo (kd := nI 8) (o1 := nI σ) (o2 := nI o) (o3 := nI x) (o4 := nI y) hg (by omega) (by omega)
  obtain ⟨e4, -, e20⟩ := hg
  obtain ⟨b', s1, s2⟩ := lk_send (w := w) (s := 1) (kd := 8) (o1 := σ) (o2 := o) (o3 := x) (o4 := y) h (by decide) hu (by rw [e4, tnI (by omega)]; exact hN) (by rw [e20, tnI (by omega)]; exact hc) (by decide) (by omega) (by omega) hx hy
  exact ⟨b', s1, s2, k', g1, g2⟩
theorem phi_rep (a : AS) (σ : Int32) (o : Nat) (x y : Int32) : phi (gRep a σ o x y) = phi a := phi_snd _ _ _ _ _ _ _
