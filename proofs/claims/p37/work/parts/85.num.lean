/-! PURE. Numbers: nI n, sides as 0 and 1; what the reference's methods do, in closed form (g..), with r_..: they do it. -/
abbrev tn (x : Int32) : Nat := x.toNatClampNeg
theorem q0 : (0 : Int32) = nI 0 := rfl
theorem q1 : (1 : Int32) = nI 1 := rfl
theorem q2 : (2 : Int32) = nI 2 := rfl
theorem q3 : (3 : Int32) = nI 3 := rfl
theorem q4 : (4 : Int32) = nI 4 := rfl
theorem q5 : (5 : Int32) = nI 5 := rfl
theorem q6 : (6 : Int32) = nI 6 := rfl
theorem q7 : (7 : Int32) = nI 7 := rfl
theorem q8 : (8 : Int32) = nI 8 := rfl
theorem q10 : (10 : Int32) = nI 10 := rfl
theorem q15 : (15 : Int32) = nI 15 := rfl
theorem q20 : (20 : Int32) = nI 20 := rfl
theorem q25 : (25 : Int32) = nI 25 := rfl
theorem q40 : (40 : Int32) = nI 40 := rfl
theorem q50 : (50 : Int32) = nI 50 := rfl
theorem q80 : (80 : Int32) = nI 80 := rfl
theorem q100 : (100 : Int32) = nI 100 := rfl
theorem q200 : (200 : Int32) = nI 200 := rfl
theorem q256 : (256 : Int32) = nI 256 := rfl
theorem q8192 : (8192 : Int32) = nI 8192 := rfl
theorem q16384 : (16384 : Int32) = nI 16384 := rfl
theorem q65536 : (65536 : Int32) = nI 65536 := rfl
theorem nar0 : vp_nar .boolean (nI 0) = nI 0 := by decide
theorem nar1 : vp_nar .boolean (nI 1) = nI 1 := by decide
theorem ixn {n N : Nat} (h : n < N) (hN : N < 2 ^ 31) : ixB (nI n) N = true := by
  have h1 := nI_in h hN
  unfold ixB
  simp only [not_or] at h1
  simp [h1.1, h1.2]
theorem nIs {x : Int32} (h : ¬ x < 0) : nI (tn x) = x := (nI_self h).symm
theorem tnI {n : Nat} (h : n < 2 ^ 31) : tn (nI n) = n := nI_clamp h
theorem tn_lt (x : Int32) : tn x < 2 ^ 31 := by
  have h := Int32.toInt_lt x
  unfold tn Int32.toNatClampNeg
  omega
theorem mdn (a b : Nat) : a - a / b * b = a % b := by
  have h := Nat.div_add_mod a b
  rw [Nat.mul_comm] at h
  omega
def pl (a : AS) (t k : Nat) : Nat := 65536 * t + (tn (a 19 t) + k) % 65536
def gGoes (a : AS) (s n f : Nat) : AS := up2 (up2 (up2 a 21 (pl a (1 - s) (tn (a 20 (1 - s)))) (nI (2 * (8192 * n + f)))) 20 (1 - s) (nI (tn (a 20 (1 - s)) + 1))) 9 s (a 0 1)
theorem r_placeOf {w : Nat} {a : AS} {t k h : Nat} (ht : t < 2) (e1 : a 19 t = nI h) (h2 : h < 65536) (hk : k ≤ 131072) : f_X9_placeOf w a (nI t) (nI k) = some (nI (pl a t k)) := by
  simp (disch := omega) only [f_X9_placeOf, pl, e1, yl, cond_true, cond_false, Option.bind_some, ixn, nI_clamp, nI_add, pk_mul, pk_sub, pk_rem, pk_div, up2_s, up2_n, up1_s, up1_n, mdn, nar0, nar1, q0, q1, q2, q3, q4, q5, q6, q7, q8, q10, q15, q20, q25, q40, q50, q80, q100, q200, q256, q8192, q16384, q65536]
theorem r_goes {w : Nat} {a : AS} {s n f h k : Nat} (hs : s < 2) (e1 : a 19 (1 - s) = nI h) (h2 : h < 65536) (e3 : a 20 (1 - s) = nI k) (h4 : k ≤ 131072) : f_X9_goes w a (nI s) (nI n) (nI f) = some (gGoes a s n f, 0) := by
  simp (disch := omega) only [f_X9_goes, f_X9_placeOf, gGoes, pl, e1, e3, yl, cond_true, cond_false, Option.bind_some, ixn, nI_clamp, nI_add, pk_mul, pk_sub, pk_rem, pk_div, up2_s, up2_n, up1_s, up1_n, mdn, nar0, nar1, q0, q1, q2, q3, q4, q5, q6, q7, q8, q10, q15, q20, q25, q40, q50, q80, q100, q200, q256, q8192, q16384, q65536]
/-- a message is kept -/
def gKeep (a : AS) (s : Nat) (kd o1 o2 o3 o4 : Int32) : AS :=
  up2 (up2 (up2 (up2 (up2 (up2 (up2 (up2 a 4 s (nI (tn (a 4 s) + 1))) 11 (8192 * s + (tn (a 4 s) + 1)) kd) 12 (8192 * s + (tn (a 4 s) + 1)) (a 0 1)) 13 (8192 * s + (tn (a 4 s) + 1)) (nI 0)) 14 (8192 * s + (tn (a 4 s) + 1)) o1) 15 (8192 * s + (tn (a 4 s) + 1)) o2) 16 (8192 * s + (tn (a 4 s) + 1)) o3) 17 (8192 * s + (tn (a 4 s) + 1)) o4
def gSends (a : AS) (s : Nat) (kd o1 o2 o3 o4 : Int32) : AS := if a 0 2 = 0 then gKeep a s kd o1 o2 o3 o4 else gGoes (gKeep a s kd o1 o2 o3 o4) s (tn (a 4 s) + 1) 0
theorem r_sends {w : Nat} {a : AS} {s n h k : Nat} {kd o1 o2 o3 o4 : Int32} (hs : s < 2) (e4 : a 4 s = nI n) (hn : n + 1 ≤ 8191) (e1 : a 19 (1 - s) = nI h) (h2 : h < 65536) (e3 : a 20 (1 - s) = nI k) (h4 : k ≤ 131072) : f_X9_sends w a (nI s) kd o1 o2 o3 o4 = some (gSends a s kd o1 o2 o3 o4, 0) := by
  by_cases hu : a 0 2 = nI 0
  · simp (disch := omega) only [f_X9_sends, gSends, gKeep, e4, hu, if_true, yl, cond_true, cond_false, Option.bind_some, ixn, nI_clamp, nI_add, pk_mul, pk_sub, pk_rem, pk_div, up2_s, up2_n, up1_s, up1_n, mdn, nar0, nar1, q0, q1, q2, q3, q4, q5, q6, q7, q8, q10, q15, q20, q25, q40, q50, q80, q100, q200, q256, q8192, q16384, q65536]
  · simp (disch := omega) only [f_X9_sends, gSends, gKeep, f_X9_goes, f_X9_placeOf, gGoes, pl, e4, e1, e3, hu, if_false, yl, cond_true, cond_false, Option.bind_some, ixn, nI_clamp, nI_add, pk_mul, pk_sub, pk_rem, pk_div, up2_s, up2_n, up1_s, up1_n, mdn, nar0, nar1, q0, q1, q2, q3, q4, q5, q6, q7, q8, q10, q15, q20, q25, q40, q50, q80, q100, q200, q256, q8192, q16384, q65536]
/-- what a side holds back from k on, d places, is forgotten -/
def zr (a : AS) (s k d : Nat) : AS := up1 a 18 (fun i => if 8192 * s + k ≤ i ∧ i < 8192 * s + k + d then nI 0 else a 18 i)
theorem zr_0 (a : AS) (s k : Nat) : zr a s k 0 = a := by
  funext q i
  unfold zr up1
  by_cases hq : q = 18
  · subst hq
    rw [if_pos rfl, if_neg (by omega)]
  · rw [if_neg hq]
theorem zr_s (a : AS) (s k d : Nat) : zr (up2 a 18 (8192 * s + k) (nI 0)) s (k + 1) d = zr a s k (d + 1) := by
  funext q i
  unfold zr
  by_cases hq : q = 18
  · subst hq
    rw [up1_s, up1_s]
    by_cases h1 : i = 8192 * s + k
    · subst h1
      rw [up2_s, if_neg (by omega), if_pos (by omega)]
    · rw [up2_n _ _ (by omega)]
      by_cases h2 : 8192 * s + k ≤ i ∧ i < 8192 * s + k + (d + 1)
      · rw [if_pos h2, if_pos (by omega)]
      · rw [if_neg h2, if_neg (by omega)]
  · rw [up1_n _ _ hq, up1_n _ _ hq, up2_n _ _ (by omega)]
def gForgets (a : AS) (s : Nat) : AS := up2 (up2 (up2 (up2 (up2 (zr a s 0 8192) 6 s (nI 0)) 7 s (nI 0)) 3 s (nI 0)) 19 s (nI 0)) 20 s (nI 0)
theorem r_forgetsL {w s : Nat} (hs : s < 2) : ∀ (d k m : Nat) (a : AS), k + d = 8192 → d < m → l_X9_forgets_2 w m a (nI s) (nI k) = some (up2 (up2 (up2 (up2 (up2 (zr a s k d) 6 s (nI 0)) 7 s (nI 0)) 3 s (nI 0)) 19 s (nI 0)) 20 s (nI 0), 0) := by
  intro d
  induction d with
  | zero =>
    intro k m a h1 h2
    obtain ⟨m, rfl⟩ : ∃ m', m = m' + 1 := ⟨m - 1, by omega⟩
    have hk : k = 8192 := by omega
    subst hk
    simp (disch := omega) only [l_X9_forgets_2, b_X9_forgets_2, zr_0, nI_eq, nI_leI, nI_ltI, Nat.le_refl, if_true, yl, cond_true, cond_false, Option.bind_some, ixn, nI_clamp, nI_add, pk_mul, pk_sub, pk_rem, pk_div, up2_s, up2_n, up1_s, up1_n, mdn, nar0, nar1, q0, q1, q2, q3, q4, q5, q6, q7, q8, q10, q15, q20, q25, q40, q50, q80, q100, q200, q256, q8192, q16384, q65536]
  | succ d ih =>
    intro k m a h1 h2
    obtain ⟨m, rfl⟩ : ∃ m', m = m' + 1 := ⟨m - 1, by omega⟩
    have hk : ¬ 8192 ≤ k := by omega
    simp (disch := omega) only [l_X9_forgets_2, b_X9_forgets_2, nI_eq, nI_leI, nI_ltI, hk, if_false, yl, cond_true, cond_false, Option.bind_some, ixn, nI_clamp, nI_add, pk_mul, pk_sub, pk_rem, pk_div, up2_s, up2_n, up1_s, up1_n, mdn, nar0, nar1, q0, q1, q2, q3, q4, q5, q6, q7, q8, q10, q15, q20, q25, q40, q50, q80, q100, q200, q256, q8192, q16384, q65536]
    rw [ih (k + 1) m _ (by omega) (by omega), zr_s]
    rfl
theorem r_forgets {w : Nat} {a : AS} {s : Nat} (hs : s < 2) (hw : 8192 < w) : f_X9_forgets w a (nI s) = some (gForgets a s, 0) := r_forgetsL hs 8192 0 w a rfl hw
def gDown (a : AS) : AS := gForgets (gForgets (up2 a 0 2 (nI 0)) 0) 1
theorem r_down {w : Nat} {a : AS} (hw : 8192 < w) : f_X9_goesDown w a = some (gDown a, a 20 0 + a 20 1) := by
  unfold f_X9_goesDown
  rw [q0, q1]
  simp (disch := omega) only [r_forgets, gDown, yl, cond_true, cond_false, Option.bind_some, ixn, nI_clamp, nI_add, pk_mul, pk_sub, pk_rem, pk_div, up2_s, up2_n, up1_s, up1_n, mdn, nar0, nar1, q0, q1, q2, q3, q4, q5, q6, q7, q8, q10, q15, q20, q25, q40, q50, q80, q100, q200, q256, q8192, q16384, q65536]
