/-! A kept message, as the class shows it. -/
variable {Hh Hg : Nat → Nat}
abbrev mFF (a : AS) (s n ow : Nat) (fb : Nat → Int32) : Nat → Int32 := msgF (a 11 (8192 * s + n)) (nI n) (2 * ow) fb
/-- the message of a number: its fields -/
def msgK (w : Nat) (μ : MP) (ν : NC) (a : AS) (s n ow : Nat) (fb : Nat → Int32) : Prop := ow ≤ 403 ∧ f_L_fields w μ ν (nI s) (nI n) = some ((μ, ν), nI (ow + 3)) ∧ (∀ p, p < ow + 3 → f_L_tagAt w μ ν (nI s) (nI n) (nI p) = some ((μ, ν), mFF a s n ow fb (2 * p)) ∧ f_L_valueAt w μ ν (nI s) (nI n) (nI p) = some ((μ, ν), mFF a s n ow fb (2 * p + 1))) ∧ (∀ x : Int32, x < 0 ∨ nI (ow + 3) ≤ x → f_L_tagAt w μ ν (nI s) (nI n) x = some ((μ, chg ν 1 6), (-7100 : Int32)) ∧ f_L_valueAt w μ ν (nI s) (nI n) x = some ((μ, chg ν 1 6), (-7100 : Int32)))
theorem msgK_of {w s n : Nat} {μ : MP} {ν : NC} {a : AS} (hR : RR μ ν a) (hs : s < 2) (h1 : 1 ≤ n) (hn : n ≤ tn (a 4 s)) : ∃ (ow : Nat) (fb : Nat → Int32), msgK w μ ν a s n ow fb ∧ msgK w μ (chg ν 1 6) a s n ow fb ∧ bodyR (a 11) (a 14) (a 15) (a 16) (a 17) (a 37) (a 39) (a 40) (8192 * s + n) (2 * ow) fb := by
  obtain ⟨m, ow, fb, t1, t2, t3, t4, t5, t6, t7, t8, t9⟩ := msgA (w := w) hR hs h1 hn
  have key : ∀ ν' : NC, RR μ ν' a → m < ν'.2 6 → m < ν'.2 8 → ν'.1 8 m = 2 * ow + 6 → f_X8_requireMessage w μ ν' (nI s) (nI n) = some (0, m + 1) → msgK w μ ν' a s n ow fb := fun ν' hR' t2 t3 t4 t1 => by
    refine ⟨t5, ?_, fun p hp => ⟨?_, ?_⟩, fun x hx => ⟨?_, ?_⟩⟩
    · unfold f_L_fields f_X8_fields
      rw [ltt hR'.1.1, t1]
      simp only [cond_true, Option.bind_some]
      unfold f_X3_fieldCount
      rw [eqs, nzs, Nat.add_sub_cancel, ltt t2, ltt t3, t4]
      simp only [cond_true, Option.bind_some]
      rw [show (nI (2 * ow + 6) / 2 : Int32) = nI ((2 * ow + 6) / 2) from pk_div (by omega) (by decide) (by decide), show (2 * ow + 6) / 2 = ow + 3 by omega]
      rfl
    · have e2 : ((2 : Int32) * nI p) = nI (2 * p) := pk_mul 2 p
      unfold f_L_tagAt f_X8_tagAt
      rw [ltt hR'.1.1, t1]
      simp only [cond_true, Option.bind_some]
      rw [eqs, nzs, Nat.add_sub_cancel, ltt t2]
      simp only [cond_true]
      rw [k_hasPl t2 t3 t4 t5 hp]
      simp only [Option.bind_some]
      unfold f_X3_tagOfPlace
      rw [if_neg n10, ltt t2, k_hasPl t2 t3 t4 t5 hp]
      simp only [cond_true, Option.bind_some]
      rw [if_neg n10, ltt t3, t4, e2, ixn (show 2 * p < 2 * ow + 6 by omega) (by omega), nI_clamp (by omega), t6 (2 * p) (by omega)]
      rfl
    · have e2 : ((2 : Int32) * nI p + 1) = nI (2 * p + 1) := by rw [show (2 : Int32) * nI p = nI (2 * p) from pk_mul 2 p]; exact nI_add (2 * p) 1
      unfold f_L_valueAt f_X8_valueAt
      rw [ltt hR'.1.1, t1]
      simp only [cond_true, Option.bind_some]
      rw [eqs, nzs, Nat.add_sub_cancel, ltt t2]
      simp only [cond_true]
      rw [k_hasPl t2 t3 t4 t5 hp]
      simp only [Option.bind_some]
      unfold f_X3_valueOfPlace
      rw [if_neg n10, ltt t2, k_hasPl t2 t3 t4 t5 hp]
      simp only [cond_true, Option.bind_some]
      rw [if_neg n10, ltt t3, t4, e2, ixn (show 2 * p + 1 < 2 * ow + 6 by omega) (by omega), nI_clamp (by omega), t6 (2 * p + 1) (by omega)]
      rfl
    · unfold f_L_tagAt f_X8_tagAt
      rw [ltt hR'.1.1, t1]
      simp only [cond_true, Option.bind_some]
      rw [eqs, nzs, Nat.add_sub_cancel, ltt t2]
      simp only [cond_true]
      rw [k_hasPlX t2 t3 t4 t5 hx]
      simp only [Option.bind_some]
      rw [if_pos (show nI 0 = (0 : Int32) from rfl)]
      rfl
    · unfold f_L_valueAt f_X8_valueAt
      rw [ltt hR'.1.1, t1]
      simp only [cond_true, Option.bind_some]
      rw [eqs, nzs, Nat.add_sub_cancel, ltt t2]
      simp only [cond_true]
      rw [k_hasPlX t2 t3 t4 t5 hx]
      simp only [Option.bind_some]
      rw [if_pos (show nI 0 = (0 : Int32) from rfl)]
      rfl
  refine ⟨ow, fb, key ν hR t2 t3 t4 t1, key (chg ν 1 6) (RR_chg 1 6 hR) t2 t3 t4 ?_, t9⟩
  exact t1
theorem jc_fieldsX {w N T : Nat} {μ : MP} {ν : NC} {a : AS} {x y : Int32} (hJ : JC N T μ ν a) (h : (x ≠ nI 0 ∧ x ≠ nI 1) ∨ (∃ s : Nat, s < 2 ∧ x = nI s ∧ (y < 1 ∨ a 4 s < y))) : f_L_fields w μ ν x y = some ((μ, chg ν 1 6), (-7100 : Int32)) := by
  have hR := JC_RR hJ
  unfold f_L_fields f_X8_fields
  rw [ltt hR.1.1, k_reqMX hR h]
  rfl
theorem sm_2 (f : Nat → Int32) (p : Nat) : sm f (2 * (p + 1)) = sm f (2 * p) + (f (2 * p) + f (2 * p + 1)) := by
  show sm f (2 * p) + f (2 * p) + f (2 * p + 1) = _
  rw [Int32.add_assoc]
