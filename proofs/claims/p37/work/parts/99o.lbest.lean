/-! The best quote. -/
variable {Hh : Nat → Nat}
theorem neg_toInt {n : Nat} (h : n < 2 ^ 31) : ((-1 : Int32) * nI n).toInt = -(n : Int) := by
  rw [Int32.toInt_mul, nI_toInt h, show (-1 : Int32).toInt = -1 from by decide]
  rw [Int.bmod_eq_of_le] <;> omega
def sg (d : Nat) : Int32 := if d = 0 then 1 else -1
theorem one_m (x : Nat) : (1 : Int32) * nI x = nI x := by rw [show (1 : Int32) = nI 1 from rfl, I_mul, Nat.one_mul]
theorem sg_le {d x y : Nat} (hx : x < 2 ^ 31) (hy : y < 2 ^ 31) : sg d * nI x ≤ sg d * nI y ↔ if d = 0 then x ≤ y else y ≤ x := by
  unfold sg
  by_cases h : d = 0
  · rw [if_pos h, if_pos h, one_m, one_m, nI_leI hx hy]
  · rw [if_neg h, if_neg h, Int32.le_iff_toInt_le, neg_toInt hx, neg_toInt hy]; omega
theorem sg_lt {d x y : Nat} (hx : x < 2 ^ 31) (hy : y < 2 ^ 31) : sg d * nI x < sg d * nI y ↔ if d = 0 then x < y else y < x := by
  unfold sg
  by_cases h : d = 0
  · rw [if_pos h, if_pos h, one_m, one_m, nI_ltI hx hy]
  · rw [if_neg h, if_neg h, Int32.lt_iff_toInt_lt, neg_toInt hx, neg_toInt hy]; omega
theorem be_step {w o d p v P : Nat} {b a : AS} {k26 : Int32 → Int32 → Int32 → Int32 → Option Int32} (h : LR Hh b a) (ho : o < 10) (hd : d < 2) (e23 : a 23 o = nI d) (eP : a 25 (40 + o) = nI P) (hP : P ≤ 100) (hp : p ≤ 3) (hv : v < 3) : b_L_best_26 k26 w b (nI o) (qI d p) (sg d) (nI (2 * v + d)) = k26 (nI o) (qI d (gBest1 a d o p v)) (sg d) (nI (2 * (v + 1) + d)) := by
  obtain ⟨pr, sz, h1, h2, h3, h4, h5⟩ := h.2.2.2.2.2.2.2.2 (2 * v + d) (by omega)
  obtain ⟨t1, t2⟩ := tq_bits h1 h2
  have g8 : b 8 (10 + o) = nI P := by rw [(h.2.2.2.2.2.1 1 o (by decide) ho).1]; exact eP
  have n2 : nI (2 * v + d) + (2 : Int32) = nI (2 * (v + 1) + d) := by rw [show (2 : Int32) = nI 2 from rfl, nI_add]; congr 1; omega
  have q135 : ∀ x4 : Int32, b_L_best_135 k26 w b (nI o) x4 (sg d) (nI (2 * v + d)) = k26 (nI o) x4 (sg d) (nI (2 * (v + 1) + d)) := fun x4 => by
    show k26 (nI o) x4 (sg d) (nI (2 * v + d) + (2 : Int32)) = _
    rw [n2]
  have q131 : b_L_best_131 k26 w b (nI o) (sg d) (nI (2 * v + d)) = k26 (nI o) (qI d (v + 1)) (sg d) (nI (2 * (v + 1) + d)) := by
    unfold b_L_best_131
    rw [q135]
    rfl
  unfold b_L_best_26
  rw [if_neg (show ¬ (6 : Int32) ≤ nI (2 * v + d) from fun e => by have := (nI_leI (a := 6) (b := 2 * v + d) (by decide) (by omega)).mp e; omega), ixn (show 2 * v + d < 6 by omega) (by decide), nI_clamp (show 2 * v + d < 2 ^ 31 by omega), h3, t1, t2]
  simp only [cond_true, yl]
  have e10 : (10 : Int32) + nI o = nI (10 + o) := nI_add 10 o
  rw [e10, ixn (show 10 + o < 20 by omega) (by decide), nI_clamp (show 10 + o < 2 ^ 31 by omega), g8]
  simp only [cond_true]
  unfold gBest1
  by_cases c0 : sz = 0
  · subst c0
    rw [if_pos (show nI 0 = (0 : Int32) from rfl), q135, if_neg (fun z => z.1 (by rw [h4]; decide))]
  · rw [if_neg (show ¬ nI sz = (0 : Int32) from fun e => c0 ((nI_eq (a := sz) (b := 0) (by omega) (by decide)).mp e))]
    have s34 : ¬ a 34 (2 * v + d) ≤ nI 0 := by rw [h4, nI_leI (by omega) (by decide)]; omega
    have hfit : gFits a o (2 * v + d) ↔ (if d = 0 then pr ≤ P else P ≤ pr) := by
      unfold gFits
      rw [e23, eP, h5]
      by_cases hd0 : d = 0
      · subst hd0
        rw [if_pos rfl, if_pos rfl, nI_ltI (by omega) (by omega)]
        omega
      · rw [if_neg (fun e => hd0 ((nI_eq (by omega) (by decide)).mp e)), if_neg hd0, nI_ltI (by omega) (by omega)]
        omega
    by_cases c1 : sg d * nI pr ≤ sg d * nI P
    · have f1 : gFits a o (2 * v + d) := hfit.mpr ((sg_le (by omega) (by omega)).mp c1)
      rw [if_pos c1]
      by_cases c2 : p = 0
      · subst c2
        rw [if_pos (show qI d 0 < (0 : Int32) from by unfold qI; rw [if_pos rfl]; decide), q131, if_pos ⟨s34, f1, Or.inl rfl⟩]
      · have eq : qI d p = nI (2 * (p - 1) + d) := by unfold qI; rw [if_neg c2]
        obtain ⟨pf, sf, k1, k2, k3, k4, k5⟩ := h.2.2.2.2.2.2.2.2 (2 * (p - 1) + d) (by omega)
        obtain ⟨u1, u2⟩ := tq_bits k1 k2
        rw [if_neg (show ¬ qI d p < (0 : Int32) from fun e => by rw [eq] at e; have := (nI_ltI (a := 2 * (p - 1) + d) (b := 0) (by omega) (by decide)).mp e; omega), eq, ixn (show 2 * (p - 1) + d < 6 by omega) (by decide), nI_clamp (show 2 * (p - 1) + d < 2 ^ 31 by omega), k3, u1, u2]
        simp only [cond_true]
        have hbet : gBet a o (2 * v + d) (2 * (p - 1) + d) ↔ (if pr = pf then sf < sz else if d = 0 then pr < pf else pf < pr) := by
          unfold gBet
          rw [e23, h5, k5, h4, k4]
          by_cases hpp : pr = pf
          · subst hpp
            rw [if_pos rfl, if_pos rfl, nI_leI (by omega) (by omega)]
            omega
          · rw [if_neg (fun e => hpp ((nI_eq (by omega) (by omega)).mp e)), if_neg hpp]
            by_cases hd0 : d = 0
            · subst hd0
              rw [if_pos rfl, if_pos rfl, nI_leI (by omega) (by omega)]
              omega
            · rw [if_neg (fun e => hd0 ((nI_eq (by omega) (by decide)).mp e)), if_neg hd0, nI_leI (by omega) (by omega)]
              omega
        by_cases c3 : sg d * nI pr < sg d * nI pf
        · rw [if_pos c3, q131, if_pos ⟨s34, f1, Or.inr (hbet.mpr (by
            have c4 := (sg_lt (d := d) (x := pr) (y := pf) (by omega) (by omega)).mp c3
            by_cases hd0 : d = 0
            · rw [if_pos hd0] at c4; rw [if_neg (by omega), if_pos hd0]; exact c4
            · rw [if_neg hd0] at c4; rw [if_neg (by omega), if_neg hd0]; exact c4))⟩]
        · rw [if_neg c3]
          have c4 := fun z => c3 ((sg_lt (d := d) (x := pr) (y := pf) (by omega) (by omega)).mpr z)
          by_cases hpp : pr = pf
          · rw [if_pos (by rw [hpp])]
            by_cases hs : nI sz ≤ nI sf
            · rw [if_pos hs, q135, if_neg (fun z => z.2.2.elim c2 (fun z => by
                have z2 := hbet.mp z
                rw [if_pos hpp] at z2
                rw [nI_leI (by omega) (by omega)] at hs
                omega)), eq]
            · rw [if_neg hs, q131, if_pos ⟨s34, f1, Or.inr (hbet.mpr (by rw [if_pos hpp]; rw [nI_leI (by omega) (by omega)] at hs; omega))⟩]
          · rw [if_neg (fun e => hpp ((nI_eq (by omega) (by omega)).mp e)), q135, if_neg (fun z => z.2.2.elim c2 (fun z => by
              have z2 := hbet.mp z
              rw [if_neg hpp] at z2
              exact c4 z2)), eq]
    · rw [if_neg c1, q135, if_neg (fun z => c1 ((sg_le (by omega) (by omega)).mpr (hfit.mp z.2.1)))]
