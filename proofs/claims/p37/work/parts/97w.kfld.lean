/-! The fields of messages: class and reference. -/
theorem nxX (a b : Nat) : nI a ^^^ nI b = nI (a ^^^ b) := by
  apply Int32.toBitVec_inj.1
  show BitVec.ofNat 32 a ^^^ BitVec.ofNat 32 b = BitVec.ofNat 32 (a ^^^ b)
  apply BitVec.eq_of_getLsbD_eq
  intro i hi
  simp [hi]
theorem fmd_n {N : Nat} (h : N < 2 ^ 30) : fmd (nI N) = nI N - nI N / 256 * 256 := by
  have h1 : (nI N ^^^ 256 : Int32) = nI (N ^^^ 256) := nxX N 256
  have h2 : N ^^^ 256 < 2 ^ 30 := Nat.xor_lt_two_pow h (by decide)
  unfold fmd
  rw [h1, if_pos (show (0 : Int32) ≤ nI (N ^^^ 256) from Int32.not_lt.mp (nIb _ (by omega)))]
theorem sm_nI {f : Nat → Int32} {B : Nat} : ∀ n : Nat, (∀ j, j < n → ∃ v : Nat, v ≤ B ∧ f j = nI v) → ∃ N : Nat, N ≤ B * n ∧ sm f n = nI N := by
  intro n
  induction n with
  | zero => exact fun _ => ⟨0, Nat.zero_le _, rfl⟩
  | succ n ih =>
    intro h
    obtain ⟨N, h1, h2⟩ := ih (fun j hj => h j (by omega))
    obtain ⟨v, h3, h4⟩ := h n (by omega)
    refine ⟨N + v, by rw [Nat.mul_succ]; omega, ?_⟩
    show sm f n + f n = _
    rw [h2, h4, nI_add]
theorem sm_congr {f g : Nat → Int32} : ∀ n : Nat, (∀ j, j < n → f j = g j) → sm f n = sm g n := by
  intro n
  induction n with
  | zero => exact fun _ => rfl
  | succ n ih =>
    intro h
    show sm f n + f n = sm g n + g n
    rw [ih (fun j hj => h j (by omega)), h n (by omega)]
/-- what the reference tells of a message's own fields -/
def ownR (w : Nat) (a : AS) (q ow : Nat) (fb : Nat → Int32) : Prop := f_X9_manyOwn w a (nI q) = some (nI ow) ∧ ∀ j, j < ow → f_X9_ownTag w a (nI q) (nI j) = some (fb (2 * j)) ∧ f_X9_ownValue w a (nI q) (nI j) = some (fb (2 * j + 1))
theorem own_of {w q nb : Nat} {a : AS} {fb : Nat → Int32} (hq : q < 16384) (h : bodyR (a 11) (a 14) (a 15) (a 16) (a 17) (a 37) (a 39) (a 40) q nb fb) : ∃ ow, nb = 2 * ow ∧ ownR w a q ow fb := by
  have hx : ixB (nI q) 16384 = true := ixn hq (by decide)
  have hc : (nI q).toNatClampNeg = q := nI_clamp (by omega)
  rcases h with ⟨h, e0⟩ | ⟨h, e0, e1, e2⟩ | ⟨h, e0, e1, e2, e3, e4, e5, e6, e7, e8⟩ | ⟨h, e0, e1, e2⟩ | ⟨h, e0, e1, e2, e3, e4, e5, e6⟩ | ⟨h, e1, e2, e3, e4, h6⟩
  · refine ⟨0, by omega, ?_, fun j hj => by omega⟩
    unfold f_X9_manyOwn b_X9_manyOwn_21 b_X9_manyOwn_70
    rw [hx, hc]
    rcases h with h | h | h <;> rw [h] <;> rfl
  · refine ⟨1, by omega, ?_, fun j hj => ?_⟩
    · unfold f_X9_manyOwn b_X9_manyOwn_21 b_X9_manyOwn_70
      rw [hx, hc, h]; rfl
    · obtain rfl : j = 0 := by omega
      refine ⟨?_, ?_⟩
      · unfold f_X9_ownTag
        rw [hx, hc, h, show fb (2 * 0) = nI 7 from e1]; rfl
      · unfold f_X9_ownValue b_X9_ownValue_25
        rw [hx, hc, h, show fb (2 * 0 + 1) = a 14 q from e2]; rfl
  · refine ⟨4, by omega, ?_, fun j hj => ?_⟩
    · unfold f_X9_manyOwn b_X9_manyOwn_21 b_X9_manyOwn_70
      rw [hx, hc, h]; rfl
    · unfold f_X9_ownTag f_X9_ownValue b_X9_ownValue_25
      rw [hx, hc, h]
      rcases (show j = 0 ∨ j = 1 ∨ j = 2 ∨ j = 3 by omega) with rfl | rfl | rfl | rfl
      · rw [show fb (2 * 0) = nI 11 from e1, show fb (2 * 0 + 1) = a 14 q from e2]; exact ⟨rfl, rfl⟩
      · rw [show fb (2 * 1) = nI 54 from e3, show fb (2 * 1 + 1) = a 15 q from e4]; exact ⟨rfl, rfl⟩
      · rw [show fb (2 * 2) = nI 44 from e5, show fb (2 * 2 + 1) = a 16 q from e6]; exact ⟨rfl, rfl⟩
      · rw [show fb (2 * 3) = nI 38 from e7, show fb (2 * 3 + 1) = a 17 q from e8]; exact ⟨rfl, rfl⟩
  · refine ⟨1, by omega, ?_, fun j hj => ?_⟩
    · unfold f_X9_manyOwn b_X9_manyOwn_21 b_X9_manyOwn_70
      rw [hx, hc, h]; rfl
    · obtain rfl : j = 0 := by omega
      unfold f_X9_ownTag f_X9_ownValue b_X9_ownValue_25
      rw [hx, hc, h, show fb (2 * 0) = nI 41 from e1, show fb (2 * 0 + 1) = a 14 q from e2]
      exact ⟨rfl, rfl⟩
  · refine ⟨3, by omega, ?_, fun j hj => ?_⟩
    · unfold f_X9_manyOwn b_X9_manyOwn_21 b_X9_manyOwn_70
      rw [hx, hc, h]; rfl
    · unfold f_X9_ownTag f_X9_ownValue b_X9_ownValue_25
      rw [hx, hc, h]
      rcases (show j = 0 ∨ j = 1 ∨ j = 2 by omega) with rfl | rfl | rfl
      · rw [show fb (2 * 0) = nI 41 from e1, show fb (2 * 0 + 1) = a 14 q from e2]; exact ⟨rfl, rfl⟩
      · rw [show fb (2 * 1) = nI 44 from e3, show fb (2 * 1 + 1) = a 15 q from e4]; exact ⟨rfl, rfl⟩
      · rw [show fb (2 * 2) = nI 38 from e5, show fb (2 * 2 + 1) = a 16 q from e6]; exact ⟨rfl, rfl⟩
  · -- a report
    have b0 : ∀ x2 : Int32, f_X9_ownTag w a (nI q) x2 = (if x2 = (0 : Int32) then (some (150 : Int32)) else ((if x2 = (1 : Int32) then (some (37 : Int32)) else ((f_X9_tagOfReport w a (nI q) (x2 - (2 : Int32))).bind (fun v3 => some v3))))) := fun x2 => by
      unfold f_X9_ownTag
      rw [hx, hc, h]
      rfl
    have v0 : ∀ x2 : Int32, f_X9_ownValue w a (nI q) x2 = (if x2 ≤ (1 : Int32) then (b_X9_ownValue_25 w a (nI q) x2) else ((f_X9_valueOfReport w a (nI q) (x2 - (2 : Int32))).bind (fun v6 => some v6))) := fun x2 => by
      unfold f_X9_ownValue
      rw [hx, hc, h]
      rfl
    have t0 : f_X9_ownTag w a (nI q) (nI 0) = some (fb (2 * 0)) ∧ f_X9_ownValue w a (nI q) (nI 0) = some (fb (2 * 0 + 1)) := by
      refine ⟨?_, ?_⟩
      · rw [b0, show fb (2 * 0) = nI 150 from e1]; rfl
      · rw [v0, show fb (2 * 0 + 1) = a 14 q from e2]
        unfold b_X9_ownValue_25
        rw [hx, hc]; rfl
    have t1 : f_X9_ownTag w a (nI q) (nI 1) = some (fb (2 * 1)) ∧ f_X9_ownValue w a (nI q) (nI 1) = some (fb (2 * 1 + 1)) := by
      refine ⟨?_, ?_⟩
      · rw [b0, show fb (2 * 1) = nI 37 from e3]; rfl
      · rw [v0, show fb (2 * 1 + 1) = a 15 q from e4]
        unfold b_X9_ownValue_25
        rw [hx, hc]; rfl
    have bT : ∀ j : Nat, 2 ≤ j → j < 1000 → f_X9_ownTag w a (nI q) (nI j) = f_X9_tagOfReport w a (nI q) (nI (j - 2)) ∧ f_X9_ownValue w a (nI q) (nI j) = f_X9_valueOfReport w a (nI q) (nI (j - 2)) := fun j j2 j3 => by
      have n0 : ¬ nI j = (0 : Int32) := fun e => by have := (nI_eq (b := 0) (by omega) (by omega)).mp e; omega
      have n1 : ¬ nI j = (1 : Int32) := fun e => by have := (nI_eq (b := 1) (by omega) (by omega)).mp e; omega
      have n2 : ¬ nI j ≤ (1 : Int32) := fun e => by have := (nI_leI (b := 1) (by omega) (by omega)).mp e; omega
      refine ⟨?_, ?_⟩
      · rw [b0, if_neg n0, if_neg n1, show (nI j - 2 : Int32) = nI (j - 2) from pk_sub j2]
        cases f_X9_tagOfReport w a (nI q) (nI (j - 2)) <;> rfl
      · rw [v0, if_neg n2, show (nI j - 2 : Int32) = nI (j - 2) from pk_sub j2]
        cases f_X9_valueOfReport w a (nI q) (nI (j - 2)) <;> rfl
    rcases h6 with ⟨hσ, e5⟩ | ⟨hσ, f, t, f1, f2, f3, f4, f5, f6, f7⟩ | ⟨hσ, e5, e6, e7⟩ | ⟨hσ, e5, e6, e7, e8, e9⟩ | ⟨hσ, e5, e6, e7⟩ | ⟨hσ, e5, e6, e7, e8, e9⟩
    · refine ⟨2, by omega, ?_, fun j hj => ?_⟩
      · unfold f_X9_manyOwn b_X9_manyOwn_21 b_X9_manyOwn_70
        rw [hx, hc, h]
        rcases hσ with hσ | hσ <;> rw [hσ] <;> rfl
      · rcases (show j = 0 ∨ j = 1 by omega) with rfl | rfl
        · exact t0
        · exact t1
    · refine ⟨3 + 4 * t, by omega, ?_, fun j hj => ?_⟩
      · unfold f_X9_manyOwn b_X9_manyOwn_21 b_X9_manyOwn_70
        rw [hx, hc, h, hσ, f2, show ((1 : Int32) + 4 * nI t) = nI (1 + 4 * t) by rw [show (4 : Int32) = nI 4 from rfl, pk_mul, show (1 : Int32) = nI 1 from rfl, nI_add]]
        show some ((2 : Int32) + nI (1 + 4 * t)) = _
        rw [show (2 : Int32) = nI 2 from rfl, nI_add, show 2 + (1 + 4 * t) = 3 + 4 * t by omega]
      · rcases (show j = 0 ∨ j = 1 ∨ 2 ≤ j by omega) with rfl | rfl | j2
        · exact t0
        · exact t1
        · rw [(bT j j2 (by omega)).1, (bT j j2 (by omega)).2]
          unfold f_X9_tagOfReport f_X9_valueOfReport
          simp only [yl]
          rw [hx, hc, hσ, f1]
          simp only [cond_true]
          rw [if_pos (show nI 1 = (1 : Int32) from rfl), if_pos (show nI 1 = (1 : Int32) from rfl)]
          by_cases c2 : j = 2
          · subst c2
            rw [if_pos (show nI (2 - 2) = (0 : Int32) from rfl), if_pos (show nI (2 - 2) = (0 : Int32) from rfl), f2, show fb (2 * 2) = nI 382 from f5, show fb (2 * 2 + 1) = nI t from f6]
            exact ⟨rfl, rfl⟩
          · have n0 : ¬ nI (j - 2) = (0 : Int32) := fun e => by have := (nI_eq (b := 0) (by omega) (by omega)).mp e; omega
            obtain ⟨i, r, hr, hj3⟩ : ∃ i r : Nat, r < 4 ∧ j = 3 + 4 * i + r := ⟨(j - 3) / 4, (j - 3) % 4, Nat.mod_lt _ (by decide), by omega⟩
            have hit : i < t := by omega
            obtain ⟨g0, g1, g2, g3, g4, g5, g6, g7⟩ := f7 i hit
            have es : (nI (j - 2) - 1 : Int32) = nI (4 * i + r) := by rw [show (nI (j - 2) - 1 : Int32) = nI (j - 2 - 1) from pk_sub (a := j - 2) (b := 1) (by omega)]; exact congrArg nI (by omega)
            have em : (nI (4 * i + r) - nI (4 * i + r) / 4 * 4 : Int32) = nI r := by
              have := pk_rem (a := 4 * i + r) (d := 4) (by omega) (by decide) (by decide)
              rw [show (4 * i + r) % 4 = r by omega] at this
              exact this
            have ed : (nI (4 * i + r) / 4 : Int32) = nI i := by
              have := pk_div (a := 4 * i + r) (d := 4) (by omega) (by decide) (by decide)
              rw [show (4 * i + r) / 4 = i by omega] at this
              exact this
            rw [if_neg n0, if_neg n0, es, em, ed, nI_add, ixn (show f + i < 100 by omega) (by decide), nI_clamp (show f + i < 2 ^ 31 by omega)]
            simp only [cond_true]
            rcases (show r = 0 ∨ r = 1 ∨ r = 2 ∨ r = 3 by omega) with rfl | rfl | rfl | rfl
            · rw [show 2 * j = 6 + 8 * i by omega, g0, show 6 + 8 * i + 1 = 7 + 8 * i by omega, g1]; exact ⟨rfl, rfl⟩
            · rw [show 2 * j = 8 + 8 * i by omega, g2, show 8 + 8 * i + 1 = 9 + 8 * i by omega, g3]; exact ⟨rfl, rfl⟩
            · rw [show 2 * j = 10 + 8 * i by omega, g4, show 10 + 8 * i + 1 = 11 + 8 * i by omega, g5]; exact ⟨rfl, rfl⟩
            · rw [show 2 * j = 12 + 8 * i by omega, g6, show 12 + 8 * i + 1 = 13 + 8 * i by omega, g7]; exact ⟨rfl, rfl⟩
    · refine ⟨3, by omega, ?_, fun j hj => ?_⟩
      · unfold f_X9_manyOwn b_X9_manyOwn_21 b_X9_manyOwn_50 b_X9_manyOwn_70
        rw [hx, hc, h, hσ]; rfl
      · rcases (show j = 0 ∨ j = 1 ∨ j = 2 by omega) with rfl | rfl | rfl
        · exact t0
        · exact t1
        · rw [(bT 2 (by decide) (by decide)).1, (bT 2 (by decide) (by decide)).2]
          unfold f_X9_tagOfReport f_X9_valueOfReport
          simp only [yl]
          rw [hx, hc, hσ, show fb (2 * 2) = nI 32 from e6, show fb (2 * 2 + 1) = a 16 q from e7]
          exact ⟨rfl, rfl⟩
    · refine ⟨4, by omega, ?_, fun j hj => ?_⟩
      · unfold f_X9_manyOwn b_X9_manyOwn_21 b_X9_manyOwn_65 b_X9_manyOwn_70
        rw [hx, hc, h, hσ]; rfl
      · rcases (show j = 0 ∨ j = 1 ∨ j = 2 ∨ j = 3 by omega) with rfl | rfl | rfl | rfl
        · exact t0
        · exact t1
        · rw [(bT 2 (by decide) (by decide)).1, (bT 2 (by decide) (by decide)).2]
          unfold f_X9_tagOfReport f_X9_valueOfReport
          simp only [yl]
          rw [hx, hc, hσ, show fb (2 * 2) = nI 44 from e6, show fb (2 * 2 + 1) = a 16 q from e7]
          exact ⟨rfl, rfl⟩
        · rw [(bT 3 (by decide) (by decide)).1, (bT 3 (by decide) (by decide)).2]
          unfold f_X9_tagOfReport f_X9_valueOfReport
          simp only [yl]
          rw [hx, hc, hσ, show fb (2 * 3) = nI 38 from e8, show fb (2 * 3 + 1) = a 17 q from e9]
          exact ⟨rfl, rfl⟩
    · refine ⟨3, by omega, ?_, fun j hj => ?_⟩
      · unfold f_X9_manyOwn b_X9_manyOwn_21 b_X9_manyOwn_50 b_X9_manyOwn_70
        rw [hx, hc, h, hσ]; rfl
      · rcases (show j = 0 ∨ j = 1 ∨ j = 2 by omega) with rfl | rfl | rfl
        · exact t0
        · exact t1
        · rw [(bT 2 (by decide) (by decide)).1, (bT 2 (by decide) (by decide)).2]
          unfold f_X9_tagOfReport f_X9_valueOfReport
          simp only [yl]
          rw [hx, hc, hσ, show fb (2 * 2) = nI 17 from e6, show fb (2 * 2 + 1) = a 16 q from e7]
          exact ⟨rfl, rfl⟩
    · refine ⟨4, by omega, ?_, fun j hj => ?_⟩
      · unfold f_X9_manyOwn b_X9_manyOwn_21 b_X9_manyOwn_65 b_X9_manyOwn_70
        rw [hx, hc, h, hσ]; rfl
      · rcases (show j = 0 ∨ j = 1 ∨ j = 2 ∨ j = 3 by omega) with rfl | rfl | rfl | rfl
        · exact t0
        · exact t1
        · rw [(bT 2 (by decide) (by decide)).1, (bT 2 (by decide) (by decide)).2]
          unfold f_X9_tagOfReport f_X9_valueOfReport
          simp only [yl]
          rw [hx, hc, hσ, show fb (2 * 2) = nI 17 from e6, show fb (2 * 2 + 1) = a 16 q from e7]
          exact ⟨rfl, rfl⟩
        · rw [(bT 3 (by decide) (by decide)).1, (bT 3 (by decide) (by decide)).2]
          unfold f_X9_tagOfReport f_X9_valueOfReport
          simp only [yl]
          rw [hx, hc, hσ, show fb (2 * 3) = nI 31 from e8, show fb (2 * 3 + 1) = a 17 q from e9]
          exact ⟨rfl, rfl⟩
/-- a field's tag and value, by its place -/
theorem r_tagOf {w q ow p nu : Nat} {a : AS} {fb : Nat → Int32} (h : ownR w a q ow fb) (hw : ow ≤ 403) (hp : p < ow + 3) (kd : Int32) : f_X9_tagOf w a (nI q) (nI p) = some (msgF kd (nI nu) (2 * ow) fb (2 * p)) := by
  obtain ⟨m1, m2⟩ := h
  obtain ⟨g0, g1, g2, g3⟩ := mF_h kd (nI nu) (2 * ow) fb
  unfold f_X9_tagOf
  rcases (show p = 0 ∨ p = 1 ∨ 2 ≤ p by omega) with rfl | rfl | p2
  · rw [show 2 * 0 = 0 from rfl, g0]; rfl
  · rw [show 2 * 1 = 2 from rfl, g2]; rfl
  · have n0 : ¬ nI p = (0 : Int32) := fun e => by have := (nI_eq (b := 0) (by omega) (by omega)).mp e; omega
    have n1 : ¬ nI p = (1 : Int32) := fun e => by have := (nI_eq (b := 1) (by omega) (by omega)).mp e; omega
    rw [if_neg n0, if_neg n1, m1]
    simp only [Option.bind_some]
    rw [show (nI ow + 2 : Int32) = nI (ow + 2) from nI_add ow 2]
    by_cases c : p = ow + 2
    · rw [if_pos (by rw [c]), show 2 * p = 2 * ow + 4 by omega, mF_10]; rfl
    · rw [if_neg (fun e => c ((nI_eq (by omega) (by omega)).mp e)), show (nI p - 2 : Int32) = nI (p - 2) from pk_sub p2, (m2 (p - 2) (by omega)).1]
      simp only [Option.bind_some]
      rw [show 2 * p = 4 + 2 * (p - 2) by omega, mF_b _ _ _ _ _ (by omega)]
theorem r_valOf {w q ow p nu : Nat} {a : AS} {fb : Nat → Int32} (hq : q < 16384) (h : ownR w a q ow fb) (hw : ow ≤ 403) (hp : p < ow + 2) : f_X9_valueOf w a (nI q) (nI nu) (nI p) = some (msgF (a 11 q) (nI nu) (2 * ow) fb (2 * p + 1)) := by
  obtain ⟨m1, m2⟩ := h
  obtain ⟨g0, g1, g2, g3⟩ := mF_h (a 11 q) (nI nu) (2 * ow) fb
  unfold f_X9_valueOf
  rcases (show p = 0 ∨ p = 1 ∨ 2 ≤ p by omega) with rfl | rfl | p2
  · rw [if_pos (show nI 0 = (0 : Int32) from rfl), ixn hq (by decide), nI_clamp (by omega), show 2 * 0 + 1 = 1 from rfl, g1]; rfl
  · rw [if_neg n10, if_pos (show nI 1 = (1 : Int32) from rfl), show 2 * 1 + 1 = 3 from rfl, g3]
  · have n0 : ¬ nI p = (0 : Int32) := fun e => by have := (nI_eq (b := 0) (by omega) (by omega)).mp e; omega
    have n1 : ¬ nI p = (1 : Int32) := fun e => by have := (nI_eq (b := 1) (by omega) (by omega)).mp e; omega
    rw [if_neg n0, if_neg n1, show (nI p - 2 : Int32) = nI (p - 2) from pk_sub p2, (m2 (p - 2) (by omega)).2]
    simp only [Option.bind_some]
    rw [show 2 * p + 1 = 4 + (2 * (p - 2) + 1) by omega, mF_b _ _ _ _ _ (by omega)]
/-- a message's number, or none -/
theorem msgD {μ : MP} {ν : NC} {a : AS} (hR : RR μ ν a) {s : Nat} (hs : s < 2) (x : Int32) : (∃ n : Nat, 1 ≤ n ∧ n ≤ tn (a 4 s) ∧ x = nI n) ∨ (x < 1 ∨ a 4 s < x) := by
  obtain ⟨y1, k, y2, y3, -⟩ := hR.2.2.2.2.1.1 s hs
  by_cases c : x < 1
  · exact Or.inr (Or.inl c)
  · have c0 : ¬ x < 0 := fun h => c (by rw [Int32.lt_iff_toInt_lt] at h ⊢; have : (1 : Int32).toInt = 1 := rfl; have : (0 : Int32).toInt = 0 := rfl; omega)
    obtain ⟨j, hj, rfl⟩ := nI_of c0
    have hj1 : 1 ≤ j := Nat.pos_of_ne_zero (fun e => c (by rw [e]; decide))
    by_cases c1 : j ≤ k
    · exact Or.inl ⟨j, hj1, by rw [y2, tnI (by omega)]; exact c1, rfl⟩
    · exact Or.inr (Or.inr (by rw [y2]; exact (nI_ltI (by omega) hj).mpr (by omega)))
theorem r_isMsg {w s n : Nat} {μ : MP} {ν : NC} {a : AS} (hR : RR μ ν a) (hs : s < 2) (h1 : 1 ≤ n) (hn : n ≤ tn (a 4 s)) : f_X9_isMessage w a (nI s) (nI n) = some (nI 1) := by
  obtain ⟨y1, k, y2, y3, -⟩ := hR.2.2.2.2.1.1 s hs
  rw [y2, tnI (by omega)] at hn
  have c : ¬ (nI n < 1 ∨ nI k < nI n) := fun h => by
    rcases h with h | h
    · have := (nI_ltI (b := 1) (by omega) (by omega)).mp h; omega
    · have := (nI_ltI (by omega) (by omega)).mp h; omega
  unfold f_X9_isMessage
  rw [r_isSide hs]
  simp only [Option.bind_some]
  rw [if_neg n10, ixn hs (by decide), nI_clamp (by omega), y2, r_in, if_neg c]
  rfl
theorem r_isMsgX {w : Nat} {a : AS} {x y : Int32} (h : (x ≠ nI 0 ∧ x ≠ nI 1) ∨ (∃ s : Nat, s < 2 ∧ x = nI s ∧ (y < 1 ∨ a 4 s < y))) : f_X9_isMessage w a x y = some (nI 0) := by
  unfold f_X9_isMessage
  rcases h with h | ⟨s, hs, rfl, h⟩
  · rw [r_isSideX h]; rfl
  · rw [r_isSide hs]
    simp only [Option.bind_some]
    rw [if_neg n10, ixn hs (by decide), nI_clamp (by omega), r_in, if_pos h]
    rfl
theorem k_reqM {w s n : Nat} {μ : MP} {ν : NC} {a : AS} (hR : RR μ ν a) (hs : s < 2) (h1 : 1 ≤ n) (hn : n ≤ tn (a 4 s)) : ∃ m : Nat, f_X8_requireMessage w μ ν (nI s) (nI n) = some (0, m + 1) ∧ m < ν.2 6 ∧ msgRel (μ.1 6 m) (μ.1 8 m) (ν.1 8 m) (a 11) (a 12) (a 13) (a 14) (a 15) (a 16) (a 17) (a 37) (a 39) (a 40) (8192 * s + n) n := by
  obtain ⟨m, t1, t2, t3, t4⟩ := k_msg (w := w) hR hs h1 hn
  have z1 := hR.1.2.1
  refine ⟨m, ?_, t3, t4⟩
  unfold f_X8_requireMessage
  rw [k_side hs]
  simp only [Option.bind_some]
  rw [eqs, ltt hR.1.1, k_party hR.1 hs]
  simp only [cond_true, Option.bind_some]
  rw [nzs, Nat.add_sub_cancel, ltt (show s < ν.2 1 by omega), t1]
  simp only [cond_true, Option.bind_some]
  rw [if_neg (Nat.succ_ne_zero m), Nat.add_sub_cancel]
theorem k_reqMX {w : Nat} {μ : MP} {ν : NC} {a : AS} {x y : Int32} (hR : RR μ ν a) (h : (x ≠ nI 0 ∧ x ≠ nI 1) ∨ (∃ s : Nat, s < 2 ∧ x = nI s ∧ (y < 1 ∨ a 4 s < y))) : f_X8_requireMessage w μ ν x y = some (1, 0) := by
  have z1 := hR.1.2.1
  unfold f_X8_requireMessage
  rcases h with h | ⟨s, hs, rfl, h⟩
  · rw [k_sideX h]; rfl
  · rw [k_side hs]
    simp only [Option.bind_some]
    rw [eqs, ltt hR.1.1, k_party hR.1 hs]
    simp only [cond_true, Option.bind_some]
    rw [nzs, Nat.add_sub_cancel, ltt (show s < ν.2 1 by omega), k_msg0 hR hs h]
    rfl
theorem msgC {μ : MP} {ν : NC} {a : AS} (hR : RR μ ν a) (x y : Int32) : (∃ s n : Nat, s < 2 ∧ 1 ≤ n ∧ n ≤ tn (a 4 s) ∧ x = nI s ∧ y = nI n) ∨ ((x ≠ nI 0 ∧ x ≠ nI 1) ∨ (∃ s : Nat, s < 2 ∧ x = nI s ∧ (y < 1 ∨ a 4 s < y))) := by
  rcases sideD x with ⟨s, hs, rfl⟩ | h
  · rcases msgD hR hs y with ⟨n, h1, h2, rfl⟩ | h
    · exact Or.inl ⟨s, n, hs, h1, h2, rfl, rfl⟩
    · exact Or.inr (Or.inr ⟨s, hs, rfl, h⟩)
  · exact Or.inr (Or.inl h)
theorem s8192 {s n : Nat} : ((8192 : Int32) * nI s + nI n) = nI (8192 * s + n) := by
  rw [show (8192 : Int32) = nI 8192 from rfl, pk_mul, nI_add]
/-- a message's rows on both sides -/
theorem msgA {w s n : Nat} {μ : MP} {ν : NC} {a : AS} (hR : RR μ ν a) (hs : s < 2) (h1 : 1 ≤ n) (hn : n ≤ tn (a 4 s)) : ∃ (m ow : Nat) (fb : Nat → Int32), f_X8_requireMessage w μ ν (nI s) (nI n) = some (0, m + 1) ∧ m < ν.2 6 ∧ m < ν.2 8 ∧ ν.1 8 m = 2 * ow + 6 ∧ ow ≤ 403 ∧ (∀ j, j < 2 * ow + 6 → μ.1 8 m j = msgF (a 11 (8192 * s + n)) (nI n) (2 * ow) fb j) ∧ ownR w a (8192 * s + n) ow fb ∧ n ≤ 8190 ∧ bodyR (a 11) (a 14) (a 15) (a 16) (a 17) (a 37) (a 39) (a 40) (8192 * s + n) (2 * ow) fb := by
  obtain ⟨y1, k, y2, y3, -⟩ := hR.2.2.2.2.1.1 s hs
  obtain ⟨m, t1, t2, L1, L2, L3, nb, fb, L4, L5, L6, L7⟩ := k_reqM (w := w) hR hs h1 hn
  rw [y2, tnI (by omega)] at hn
  obtain ⟨ow, e, ho⟩ := own_of (w := w) (show 8192 * s + n < 16384 by omega) L7
  subst e
  have z68 := hR.1.2.2.2.2.2.2.2.2.2.2.2.2.2.2.2.2.1
  exact ⟨m, ow, fb, t1, t2, by omega, L4, by omega, L6, ho, by omega, L7⟩
theorem ownR_0 {w q ow : Nat} {a : AS} {fb : Nat → Int32} {t : Int32} (h : ownR w a q ow fb) : ownR w (up2 a 0 0 t) q ow fb := h
theorem o_fields {w : Nat} {μ : MP} {ν : NC} {a : AS} {x y : Int32} (hR : RR μ ν a) : oq ν a (s_fields w μ ν a x y) := by
  unfold s_fields f_X8_fields f_X9_fields
  rw [ltt hR.1.1]
  rcases msgC hR x y with ⟨s, n, hs, h1, hn, rfl, rfl⟩ | h
  · obtain ⟨m, ow, fb, t1, t2, t3, t4, t5, t6, t7, t8, -⟩ := msgA (w := w) hR hs h1 hn
    have hb : b_X9_fields_15 w a (nI s) (nI n) (nI 0) = some (up2 a 0 0 (nI 0), nI (ow + 3)) := by
      unfold b_X9_fields_15
      simp only [yl]
      rw [up2_s, if_pos (show nI 0 ≤ (0 : Int32) by decide), s8192, (ownR_0 (t := nI 0) t7).1]
      simp only [Option.bind_some]
      rw [show (nI ow + 3 : Int32) = nI (ow + 3) from nI_add ow 3]
    rw [t1, r_isMsg hR hs h1 hn]
    simp only [cond_true, Option.bind_some]
    unfold f_X3_fieldCount
    rw [eqs, nzs, Nat.add_sub_cancel, ltt t2, ltt t3, t4, if_neg n10, show (0 : Int32) = nI 0 from rfl, hb]
    simp only [cond_true, Option.bind_some]
    rw [show (nI (2 * ow + 6) / 2 : Int32) = nI ((2 * ow + 6) / 2) from pk_div (by omega) (by decide) (by decide), show (2 * ow + 6) / 2 = ow + 3 by omega, r_thrown, up2_s]
    exact oq_ok hR
  · have hb : b_X9_fields_15 w a x y (nI 1) = some (up2 a 0 0 (nI 1), 0) := by
      unfold b_X9_fields_15
      simp only [yl]
      rw [up2_s, if_neg (show ¬ nI 1 ≤ (0 : Int32) by decide)]
    rw [k_reqMX hR h, r_isMsgX h]
    simp only [cond_true, Option.bind_some]
    rw [if_pos (show nI 0 = (0 : Int32) from rfl), show (1 : Int32) = nI 1 from rfl, hb]
    simp only [Option.bind_some]
    simp only [eq10, cond_false, Option.bind_some, r_thrown, up2_s]
    refine oq_x hR ?_ ?_ <;> decide
/-- a field's place, or none -/
theorem plD (x : Int32) (F : Nat) (hF : F < 2 ^ 31) : (∃ p : Nat, p < F ∧ x = nI p) ∨ (x < 0 ∨ nI F ≤ x) := by
  by_cases c : x < 0
  · exact Or.inr (Or.inl c)
  · obtain ⟨j, hj, rfl⟩ := nI_of c
    by_cases c1 : j < F
    · exact Or.inl ⟨j, c1, rfl⟩
    · exact Or.inr (Or.inr ((nI_leI hF hj).mpr (by omega)))
theorem r_asksF36 {w : Nat} {a : AS} : b_X9_asksField_35 w a = some (up2 a 0 0 (nI 1), nI 0) ∧ b_X9_asksField_36 w a (0 : Int32) = some (up2 a 0 0 (nI 0), nI 1) := by
  refine ⟨?_, ?_⟩
  · unfold b_X9_asksField_35 b_X9_asksField_36
    simp only [yl]
    rw [up2_s, if_neg (show ¬ (1 : Int32) = 0 by decide)]
    rfl
  · unfold b_X9_asksField_36
    simp only [yl]
    rw [up2_s, if_pos rfl]
    rfl
theorem r_asksF {w s n ow p : Nat} {μ : MP} {ν : NC} {a : AS} {fb : Nat → Int32} (hR : RR μ ν a) (hs : s < 2) (h1 : 1 ≤ n) (hn : n ≤ tn (a 4 s)) (h : ownR w a (8192 * s + n) ow fb) (hw : ow ≤ 403) (hp : p < ow + 3) : f_X9_asksField w a (nI s) (nI n) (nI p) = some (up2 a 0 0 (nI 0), nI 1) := by
  have c : ¬ (nI p < 0 ∨ nI (ow + 2) < nI p) := fun h => by
    rcases h with h | h
    · exact absurd h (nIb _ (by omega))
    · have := (nI_ltI (by omega) (by omega)).mp h; omega
  unfold f_X9_asksField
  rw [r_isMsg hR hs h1 hn]
  simp only [Option.bind_some]
  rw [if_neg n10, s8192, h.1]
  simp only [Option.bind_some]
  rw [r_in, show (nI ow + 2 : Int32) = nI (ow + 2) from nI_add ow 2, if_neg c]
  simp only [Option.bind_some]
  rw [if_neg n10, r_asksF36.2]
theorem r_asksFX {w s n ow : Nat} {μ : MP} {ν : NC} {a : AS} {x : Int32} {fb : Nat → Int32} (hR : RR μ ν a) (hs : s < 2) (h1 : 1 ≤ n) (hn : n ≤ tn (a 4 s)) (h : ownR w a (8192 * s + n) ow fb) (hw : ow ≤ 403) (hx : x < 0 ∨ nI (ow + 3) ≤ x) : f_X9_asksField w a (nI s) (nI n) x = some (up2 a 0 0 (nI 1), nI 0) := by
  have c : x < 0 ∨ nI (ow + 2) < x := by
    rcases hx with hx | hx
    · exact Or.inl hx
    · by_cases c0 : x < 0
      · exact Or.inl c0
      · obtain ⟨j, hj, rfl⟩ := nI_of c0
        have := (nI_leI (by omega) hj).mp hx
        exact Or.inr ((nI_ltI (by omega) hj).mpr (by omega))
  unfold f_X9_asksField
  rw [r_isMsg hR hs h1 hn]
  simp only [Option.bind_some]
  rw [if_neg n10, s8192, h.1]
  simp only [Option.bind_some]
  rw [r_in, show (nI ow + 2 : Int32) = nI (ow + 2) from nI_add ow 2, if_pos c]
  simp only [Option.bind_some]
  rw [if_pos (show nI 0 = (0 : Int32) from rfl), r_asksF36.1]
theorem r_asksFY {w : Nat} {a : AS} {x y z : Int32} (h : (x ≠ nI 0 ∧ x ≠ nI 1) ∨ (∃ s : Nat, s < 2 ∧ x = nI s ∧ (y < 1 ∨ a 4 s < y))) : f_X9_asksField w a x y z = some (up2 a 0 0 (nI 1), nI 0) := by
  unfold f_X9_asksField
  rw [r_isMsgX h]
  simp only [Option.bind_some]
  rw [if_pos (show nI 0 = (0 : Int32) from rfl), r_asksF36.1]
theorem k_hasPl {w m ow p : Nat} {μ : MP} {ν : NC} (t2 : m < ν.2 6) (t3 : m < ν.2 8) (t4 : ν.1 8 m = 2 * ow + 6) (hw : ow ≤ 403) (hp : p < ow + 3) : f_X3_hasPlace w μ ν m (nI p) = some (nI 1) := by
  have c : ¬ nI (ow + 3) ≤ nI p := fun h => by have := (nI_leI (by omega) (by omega)).mp h; omega
  unfold f_X3_hasPlace
  rw [if_neg (nIb _ (by omega)), ltt t2, ltt t3, t4, show (nI (2 * ow + 6) / 2 : Int32) = nI ((2 * ow + 6) / 2) from pk_div (by omega) (by decide) (by decide), show (2 * ow + 6) / 2 = ow + 3 by omega, if_neg c]
  rfl
theorem k_hasPlX {w m ow : Nat} {μ : MP} {ν : NC} {x : Int32} (t2 : m < ν.2 6) (t3 : m < ν.2 8) (t4 : ν.1 8 m = 2 * ow + 6) (hw : ow ≤ 403) (hx : x < 0 ∨ nI (ow + 3) ≤ x) : f_X3_hasPlace w μ ν m x = some (nI 0) := by
  unfold f_X3_hasPlace
  by_cases c : x < 0
  · rw [if_pos c]; rfl
  · rw [if_neg c, ltt t2, ltt t3, t4, show (nI (2 * ow + 6) / 2 : Int32) = nI ((2 * ow + 6) / 2) from pk_div (by omega) (by decide) (by decide), show (2 * ow + 6) / 2 = ow + 3 by omega, if_pos (hx.resolve_left c)]
    rfl
theorem o_tagAt {w : Nat} {μ : MP} {ν : NC} {a : AS} {x y z : Int32} (hR : RR μ ν a) : oq ν a (s_tagAt w μ ν a x y z) := by
  unfold s_tagAt f_X8_tagAt f_X9_tagAt
  rw [ltt hR.1.1]
  rcases msgC hR x y with ⟨s, n, hs, h1, hn, rfl, rfl⟩ | h
  · obtain ⟨m, ow, fb, t1, t2, t3, t4, t5, t6, t7, t8, -⟩ := msgA (w := w) hR hs h1 hn
    rw [t1]
    simp only [cond_true, Option.bind_some]
    rw [eqs, nzs, Nat.add_sub_cancel, ltt t2]
    simp only [cond_true]
    rcases plD z (ow + 3) (by omega) with ⟨p, hp, rfl⟩ | hz
    · have e2 : ((2 : Int32) * nI p) = nI (2 * p) := pk_mul 2 p
      rw [k_hasPl t2 t3 t4 t5 hp, r_asksF hR hs h1 hn t7 t5 hp]
      simp only [Option.bind_some]
      unfold f_X3_tagOfPlace
      rw [if_neg n10, if_neg n10, s8192, r_tagOf (nu := n) (ownR_0 (t := nI 0) t7) t5 hp (a 11 (8192 * s + n)), ltt t2, k_hasPl t2 t3 t4 t5 hp]
      simp only [cond_true, Option.bind_some]
      rw [if_neg n10, ltt t3, t4, e2, ixn (show 2 * p < 2 * ow + 6 by omega) (by omega), nI_clamp (by omega), t6 (2 * p) (by omega)]
      simp only [cond_true, Option.bind_some]
      rw [r_thrown, up2_s]
      exact oq_ok hR
    · rw [k_hasPlX t2 t3 t4 t5 hz, r_asksFX hR hs h1 hn t7 t5 hz]
      simp only [Option.bind_some]
      rw [if_pos (show nI 0 = (0 : Int32) from rfl), if_pos (show nI 0 = (0 : Int32) from rfl)]
      simp only [Option.bind_some]
      simp only [eq10, cond_false, Option.bind_some, r_thrown, up2_s]
      refine oq_x hR ?_ ?_ <;> decide
  · rw [k_reqMX hR h, r_asksFY h]
    simp only [cond_true, Option.bind_some]
    rw [if_pos (show nI 0 = (0 : Int32) from rfl)]
    simp only [Option.bind_some]
    simp only [eq10, cond_false, Option.bind_some, r_thrown, up2_s]
    refine oq_x hR ?_ ?_ <;> decide
/-- values of messages and executions are small -/
def vOk (a : AS) : Prop := (∀ s n : Nat, s < 2 → 1 ≤ n → n ≤ tn (a 4 s) → ∀ k, 14 ≤ k → k ≤ 17 → ∃ v : Nat, v ≤ 10000 ∧ a k (8192 * s + n) = nI v) ∧ ∀ e, e < 100 → (∃ v : Nat, v ≤ 10000 ∧ a 37 e = nI v) ∧ (∃ v : Nat, v ≤ 10000 ∧ a 39 e = nI v) ∧ ∃ v : Nat, v ≤ 10000 ∧ a 40 e = nI v
theorem body_v {a : AS} {s n ow : Nat} {fb : Nat → Int32} (hv : vOk a) (hs : s < 2) (h1 : 1 ≤ n) (hn : n ≤ tn (a 4 s)) (hb : bodyR (a 11) (a 14) (a 15) (a 16) (a 17) (a 37) (a 39) (a 40) (8192 * s + n) (2 * ow) fb) : (∃ v : Nat, v ≤ 10000 ∧ a 11 (8192 * s + n) = nI v) ∧ ∀ j, j < 2 * ow → ∃ v : Nat, v ≤ 10000 ∧ fb j = nI v := by
  have hk := hv.1 s n hs h1 hn
  have k14 := hk 14 (by decide) (by decide)
  have k15 := hk 15 (by decide) (by decide)
  have k16 := hk 16 (by decide) (by decide)
  have k17 := hk 17 (by decide) (by decide)
  have lit : ∀ {x : Int32} {v : Nat}, x = nI v → v ≤ 10000 → ∃ v : Nat, v ≤ 10000 ∧ x = nI v := fun h h' => ⟨_, h', h⟩
  rcases hb with ⟨h, e0⟩ | ⟨h, e0, e1, e2⟩ | ⟨h, e0, e1, e2, e3, e4, e5, e6, e7, e8⟩ | ⟨h, e0, e1, e2⟩ | ⟨h, e0, e1, e2, e3, e4, e5, e6⟩ | ⟨h, e1, e2, e3, e4, h6⟩
  · refine ⟨?_, fun j hj => by omega⟩
    rcases h with h | h | h
    · exact lit h (by decide)
    · exact lit h (by decide)
    · exact lit h (by decide)
  · refine ⟨lit h (by decide), fun j hj => ?_⟩
    rcases (show j = 0 ∨ j = 1 by omega) with rfl | rfl
    · exact lit e1 (by decide)
    · rw [e2]; exact k14
  · refine ⟨lit h (by decide), fun j hj => ?_⟩
    rcases (show j = 0 ∨ j = 1 ∨ j = 2 ∨ j = 3 ∨ j = 4 ∨ j = 5 ∨ j = 6 ∨ j = 7 by omega) with rfl | rfl | rfl | rfl | rfl | rfl | rfl | rfl
    · exact lit e1 (by decide)
    · rw [e2]; exact k14
    · exact lit e3 (by decide)
    · rw [e4]; exact k15
    · exact lit e5 (by decide)
    · rw [e6]; exact k16
    · exact lit e7 (by decide)
    · rw [e8]; exact k17
  · refine ⟨lit h (by decide), fun j hj => ?_⟩
    rcases (show j = 0 ∨ j = 1 by omega) with rfl | rfl
    · exact lit e1 (by decide)
    · rw [e2]; exact k14
  · refine ⟨lit h (by decide), fun j hj => ?_⟩
    rcases (show j = 0 ∨ j = 1 ∨ j = 2 ∨ j = 3 ∨ j = 4 ∨ j = 5 by omega) with rfl | rfl | rfl | rfl | rfl | rfl
    · exact lit e1 (by decide)
    · rw [e2]; exact k14
    · exact lit e3 (by decide)
    · rw [e4]; exact k15
    · exact lit e5 (by decide)
    · rw [e6]; exact k16
  · refine ⟨lit h (by decide), fun j hj => ?_⟩
    rcases (show j = 0 ∨ j = 1 ∨ j = 2 ∨ j = 3 ∨ 4 ≤ j by omega) with rfl | rfl | rfl | rfl | j4
    · exact lit e1 (by decide)
    · rw [e2]; exact k14
    · exact lit e3 (by decide)
    · rw [e4]; exact k15
    · rcases h6 with ⟨hσ, e5⟩ | ⟨hσ, f, t, f1, f2, f3, f4, f5, f6, f7⟩ | ⟨hσ, e5, e6, e7⟩ | ⟨hσ, e5, e6, e7, e8, e9⟩ | ⟨hσ, e5, e6, e7⟩ | ⟨hσ, e5, e6, e7, e8, e9⟩
      · omega
      · rcases (show j = 4 ∨ j = 5 ∨ 6 ≤ j by omega) with rfl | rfl | j6
        · exact lit f5 (by decide)
        · exact lit f6 (by omega)
        · obtain ⟨i, r, hr, hj3⟩ : ∃ i r : Nat, r < 8 ∧ j = 6 + 8 * i + r := ⟨(j - 6) / 8, (j - 6) % 8, Nat.mod_lt _ (by decide), by omega⟩
          have hit : i < t := by omega
          obtain ⟨g0, g1, g2, g3, g4, g5, g6, g7⟩ := f7 i hit
          obtain ⟨q37, q39, q40'⟩ := hv.2 (f + i) (by omega)
          rcases (show r = 0 ∨ r = 1 ∨ r = 2 ∨ r = 3 ∨ r = 4 ∨ r = 5 ∨ r = 6 ∨ r = 7 by omega) with rfl | rfl | rfl | rfl | rfl | rfl | rfl | rfl
          · rw [show j = 6 + 8 * i by omega]; exact lit g0 (by decide)
          · rw [show j = 7 + 8 * i by omega]; exact lit g1 (by omega)
          · rw [show j = 8 + 8 * i by omega]; exact lit g2 (by decide)
          · rw [show j = 9 + 8 * i by omega, g3]; exact q37
          · rw [show j = 10 + 8 * i by omega]; exact lit g4 (by decide)
          · rw [show j = 11 + 8 * i by omega, g5]; exact q40'
          · rw [show j = 12 + 8 * i by omega]; exact lit g6 (by decide)
          · rw [show j = 13 + 8 * i by omega, g7]; exact q39
      · rcases (show j = 4 ∨ j = 5 by omega) with rfl | rfl
        · exact lit e6 (by decide)
        · rw [e7]; exact k16
      · rcases (show j = 4 ∨ j = 5 ∨ j = 6 ∨ j = 7 by omega) with rfl | rfl | rfl | rfl
        · exact lit e6 (by decide)
        · rw [e7]; exact k16
        · exact lit e8 (by decide)
        · rw [e9]; exact k17
      · rcases (show j = 4 ∨ j = 5 by omega) with rfl | rfl
        · exact lit e6 (by decide)
        · rw [e7]; exact k16
      · rcases (show j = 4 ∨ j = 5 ∨ j = 6 ∨ j = 7 by omega) with rfl | rfl | rfl | rfl
        · exact lit e6 (by decide)
        · rw [e7]; exact k16
        · exact lit e8 (by decide)
        · rw [e9]; exact k17
theorem mF_r (kd nu : Int32) (nb : Nat) (fb : Nat → Int32) (j : Nat) (hj : j < nb + 4) : msgF kd nu nb fb j = msgR kd nu nb fb j := by
  unfold msgF
  rw [up1_n _ _ (by omega), up1_n _ _ (by omega)]
theorem r_sumL {w s n ow nu : Nat} {a : AS} {fb : Nat → Int32} {x2 : Int32} (hq : 8192 * s + n < 16384) (h : ownR w a (8192 * s + n) ow fb) (hw : ow ≤ 403) (hx : x2 = nI nu) : ∀ (d p m : Nat), p + d = ow + 2 → d < m → l_X9_valueAt_48 w m a x2 (nI (ow + 2)) (nI (8192 * s + n)) (sm (msgF (a 11 (8192 * s + n)) (nI nu) (2 * ow) fb) (2 * p)) (nI p) = some (a, sm (msgF (a 11 (8192 * s + n)) (nI nu) (2 * ow) fb) (2 * ow + 4) - sm (msgF (a 11 (8192 * s + n)) (nI nu) (2 * ow) fb) (2 * ow + 4) / 256 * 256) := by
  intro d
  induction d with
  | zero =>
    intro p m h1 h2
    obtain ⟨m, rfl⟩ : ∃ m', m = m' + 1 := ⟨m - 1, by omega⟩
    obtain rfl : p = ow + 2 := by omega
    unfold l_X9_valueAt_48 b_X9_valueAt_48
    rw [if_pos (Int32.le_refl _), show 2 * (ow + 2) = 2 * ow + 4 by omega]
  | succ d ih =>
    intro p m h1 h2
    obtain ⟨m, rfl⟩ : ∃ m', m = m' + 1 := ⟨m - 1, by omega⟩
    have c : ¬ nI (ow + 2) ≤ nI p := fun h => by have := (nI_leI (by omega) (by omega)).mp h; omega
    have hi := ih (p + 1) m (by omega) (by omega)
    unfold l_X9_valueAt_48 b_X9_valueAt_48
    rw [if_neg c, r_tagOf (nu := nu) h hw (by omega) (a 11 (8192 * s + n)), hx, r_valOf (nu := nu) hq h hw (by omega)]
    simp only [Option.bind_some, yl]
    rw [hx, show 2 * (p + 1) = 2 * p + 1 + 1 by omega] at hi
    rw [show (nI p + 1 : Int32) = nI (p + 1) from nI_add p 1, ← Int32.add_assoc]
    exact hi
theorem o_valueAt {w : Nat} {μ : MP} {ν : NC} {a : AS} {x y z : Int32} (hR : RR μ ν a) (hv : vOk a) (hw : 500 < w) : oq ν a (s_valueAt w μ ν a x y z) := by
  unfold s_valueAt f_X8_valueAt f_X9_valueAt
  rw [ltt hR.1.1]
  rcases msgC hR x y with ⟨s, n, hs, h1, hn, rfl, rfl⟩ | h
  · obtain ⟨m, ow, fb, t1, t2, t3, t4, t5, t6, t7, t8, t9⟩ := msgA (w := w) hR hs h1 hn
    rw [t1]
    simp only [cond_true, Option.bind_some]
    rw [eqs, nzs, Nat.add_sub_cancel, ltt t2]
    simp only [cond_true]
    rcases plD z (ow + 3) (by omega) with ⟨p, hp, rfl⟩ | hz
    · have e2 : ((2 : Int32) * nI p + 1) = nI (2 * p + 1) := by rw [show (2 : Int32) * nI p = nI (2 * p) from pk_mul 2 p]; exact nI_add (2 * p) 1
      have hq : 8192 * s + n < 16384 := by omega
      have hk : f_X3_valueOfPlace w μ ν m (nI p) = some (msgF (a 11 (8192 * s + n)) (nI n) (2 * ow) fb (2 * p + 1)) := by
        unfold f_X3_valueOfPlace
        rw [ltt t2, k_hasPl t2 t3 t4 t5 hp]
        simp only [cond_true, Option.bind_some]
        rw [if_neg n10, ltt t3, t4, e2, ixn (show 2 * p + 1 < 2 * ow + 6 by omega) (by omega), nI_clamp (by omega), t6 (2 * p + 1) (by omega)]
        rfl
      rw [k_hasPl t2 t3 t4 t5 hp, r_asksF hR hs h1 hn t7 t5 hp]
      simp only [Option.bind_some, yl]
      rw [if_neg n10, if_neg n10, s8192, (ownR_0 (t := nI 0) t7).1, hk]
      simp only [Option.bind_some]
      rw [show (nI ow + 2 : Int32) = nI (ow + 2) from nI_add ow 2]
      by_cases c : p = ow + 2
      · have hs' := r_sumL (x2 := nI n) (w := w) hq (ownR_0 (t := nI 0) t7) t5 rfl (ow + 2) 0 w (by omega) (by omega)
        obtain ⟨v1, v2⟩ := body_v hv hs h1 hn t9
        obtain ⟨g0, g1, g2, g3⟩ := mF_h (a 11 (8192 * s + n)) (nI n) (2 * ow) fb
        obtain ⟨N, N1, N2⟩ := sm_nI (f := msgF (a 11 (8192 * s + n)) (nI n) (2 * ow) fb) (B := 10000) (2 * ow + 4) (fun j hj => by
          rcases (show j = 0 ∨ j = 1 ∨ j = 2 ∨ j = 3 ∨ 4 ≤ j by omega) with rfl | rfl | rfl | rfl | j4
          · exact ⟨35, by decide, g0⟩
          · rw [g1]; exact v1
          · exact ⟨34, by decide, g2⟩
          · exact ⟨n, by omega, g3⟩
          · rw [show j = 4 + (j - 4) by omega, mF_b _ _ _ _ _ (by omega)]
            exact v2 (j - 4) (by omega))
        have ef : msgF (a 11 (8192 * s + n)) (nI n) (2 * ow) fb (2 * p + 1) = nI N - nI N / 256 * 256 := by
          rw [show 2 * p + 1 = 2 * ow + 5 by omega]
          show up1 _ (2 * ow + 5) _ (2 * ow + 5) = _
          rw [up1_s, ← sm_congr (2 * ow + 4) (fun j hj => mF_r (a 11 (8192 * s + n)) (nI n) (2 * ow) fb j hj), N2, fmd_n (by omega)]
        rw [if_pos (by rw [c]; exact Int32.le_refl _), c, show l_X9_valueAt_48 w w (up2 a 0 0 (nI 0)) (nI n) (nI (ow + 2)) (nI (8192 * s + n)) (0 : Int32) (0 : Int32) = _ from hs']
        simp only [Option.bind_some]
        rw [r_thrown, up2_s, ← c, ef, show up2 a 0 0 (nI 0) 11 (8192 * s + n) = a 11 (8192 * s + n) from rfl, N2]
        exact oq_ok hR
      · rw [if_neg (fun h => by have := (nI_leI (by omega) (by omega)).mp h; omega), r_valOf (nu := n) hq (ownR_0 (t := nI 0) t7) t5 (by omega)]
        simp only [Option.bind_some]
        rw [r_thrown, up2_s, show up2 a 0 0 (nI 0) 11 (8192 * s + n) = a 11 (8192 * s + n) from rfl]
        exact oq_ok hR
    · rw [k_hasPlX t2 t3 t4 t5 hz, r_asksFX hR hs h1 hn t7 t5 hz]
      simp only [Option.bind_some]
      rw [if_pos (show nI 0 = (0 : Int32) from rfl), if_pos (show nI 0 = (0 : Int32) from rfl)]
      simp only [Option.bind_some]
      simp only [eq10, cond_false, Option.bind_some, r_thrown, up2_s]
      refine oq_x hR ?_ ?_ <;> decide
  · rw [k_reqMX hR h, r_asksFY h]
    simp only [cond_true, Option.bind_some]
    rw [if_pos (show nI 0 = (0 : Int32) from rfl)]
    simp only [Option.bind_some]
    simp only [eq10, cond_false, Option.bind_some, r_thrown, up2_s]
    refine oq_x hR ?_ ?_ <;> decide
