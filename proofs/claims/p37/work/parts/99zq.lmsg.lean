/-! isMessage -/
variable {Hh Hg : Nat → Nat}
def ltag (kd o1 f : Nat) : Int32 := if kd = 3 then 7 else if kd = 5 then (if f = 0 then 11 else if f = 1 then 54 else if f = 2 then 44 else 38) else if 8 ≤ kd then (if f = 0 then 150 else if f = 1 then 37 else if o1 = 2 then 32 else if o1 = 3 then (if f = 2 then 44 else 38) else if f = 2 then 17 else 31) else if f = 0 then 41 else if f = 1 then 44 else 38
theorem im_202 {w kd o1 f ow : Nat} {x1 x2 x10 x11 : Int32} {C : Int64} {k202 : MP → NC → AS → Int32 → Int32 → Int64 → Int32 → Int32 → Int32 → Int32 → Int32 → Int32 → Option (((MP × NC) × AS) × Int32)} {μ : MP} {ν : NC} {b : AS} (hk : kd < 16) (ho : o1 ≤ 100) (hf : f < ow) (how : ow ≤ 403) : b_L_isMessage_202 k202 w μ ν b x1 x2 C (nI kd) (nI o1) x10 x11 (nI ow) (nI f) = b_L_isMessage_364 k202 w μ ν b x1 x2 C (nI kd) (nI o1) x10 x11 (nI ow) (nI f) (ltag kd o1 f) := by
  have ek : ∀ z : Nat, z < 100 → (nI kd = nI z ↔ kd = z) := fun z hz => nI_eq (by omega) (by omega)
  have eo : ∀ z : Nat, z < 100 → (nI o1 = nI z ↔ o1 = z) := fun z hz => nI_eq (by omega) (by omega)
  have ef : ∀ z : Nat, z < 100 → (nI f = nI z ↔ f = z) := fun z hz => nI_eq (by omega) (by omega)
  have e8 : (8 : Int32) ≤ nI kd ↔ 8 ≤ kd := nI_leI (a := 8) (b := kd) (by decide) (by omega)
  unfold b_L_isMessage_202 ltag
  rw [if_neg (fun z => by have := (nI_leI (by omega) (by omega)).mp z; omega)]
  by_cases c3 : kd = 3
  · rw [if_pos (show nI kd = (3 : Int32) from (ek 3 (by decide)).mpr c3), if_pos c3]
  rw [if_neg (show ¬ nI kd = (3 : Int32) from fun z => c3 ((ek 3 (by decide)).mp z)), if_neg c3]
  by_cases c5 : kd = 5
  · rw [if_pos (show nI kd = (5 : Int32) from (ek 5 (by decide)).mpr c5), if_pos c5]
    by_cases f0 : f = 0
    · rw [if_pos (show nI f = (0 : Int32) from (ef 0 (by decide)).mpr f0), if_pos f0]
    rw [if_neg (show ¬ nI f = (0 : Int32) from fun z => f0 ((ef 0 (by decide)).mp z)), if_neg f0]
    by_cases f1 : f = 1
    · rw [if_pos (show nI f = (1 : Int32) from (ef 1 (by decide)).mpr f1), if_pos f1]
    rw [if_neg (show ¬ nI f = (1 : Int32) from fun z => f1 ((ef 1 (by decide)).mp z)), if_neg f1]
    by_cases f2 : f = 2
    · rw [if_pos (show nI f = (2 : Int32) from (ef 2 (by decide)).mpr f2), if_pos f2]
    rw [if_neg (show ¬ nI f = (2 : Int32) from fun z => f2 ((ef 2 (by decide)).mp z)), if_neg f2]
  rw [if_neg (show ¬ nI kd = (5 : Int32) from fun z => c5 ((ek 5 (by decide)).mp z)), if_neg c5]
  by_cases c8 : 8 ≤ kd
  · rw [if_pos (e8.mpr c8), if_pos c8]
    by_cases f0 : f = 0
    · rw [if_pos (show nI f = (0 : Int32) from (ef 0 (by decide)).mpr f0), if_pos f0]
    rw [if_neg (show ¬ nI f = (0 : Int32) from fun z => f0 ((ef 0 (by decide)).mp z)), if_neg f0]
    by_cases f1 : f = 1
    · rw [if_pos (show nI f = (1 : Int32) from (ef 1 (by decide)).mpr f1), if_pos f1]
    rw [if_neg (show ¬ nI f = (1 : Int32) from fun z => f1 ((ef 1 (by decide)).mp z)), if_neg f1]
    by_cases g2 : o1 = 2
    · rw [if_pos (show nI o1 = (2 : Int32) from (eo 2 (by decide)).mpr g2), if_pos g2]
    rw [if_neg (show ¬ nI o1 = (2 : Int32) from fun z => g2 ((eo 2 (by decide)).mp z)), if_neg g2]
    by_cases f2 : f = 2
    · rw [if_pos (show nI f = (2 : Int32) from (ef 2 (by decide)).mpr f2), if_pos (show nI f = (2 : Int32) from (ef 2 (by decide)).mpr f2), if_pos f2, if_pos f2]
      by_cases g3 : o1 = 3
      · rw [if_pos (show nI o1 = (3 : Int32) from (eo 3 (by decide)).mpr g3), if_pos g3]
      · rw [if_neg (show ¬ nI o1 = (3 : Int32) from fun z => g3 ((eo 3 (by decide)).mp z)), if_neg g3]
    · rw [if_neg (show ¬ nI f = (2 : Int32) from fun z => f2 ((ef 2 (by decide)).mp z)), if_neg (show ¬ nI f = (2 : Int32) from fun z => f2 ((ef 2 (by decide)).mp z)), if_neg f2, if_neg f2]
      by_cases g3 : o1 = 3
      · rw [if_pos (show nI o1 = (3 : Int32) from (eo 3 (by decide)).mpr g3), if_pos g3]
      · rw [if_neg (show ¬ nI o1 = (3 : Int32) from fun z => g3 ((eo 3 (by decide)).mp z)), if_neg g3]
  · rw [if_neg (fun z => c8 (e8.mp z)), if_neg c8]
    by_cases f0 : f = 0
    · rw [if_pos (show nI f = (0 : Int32) from (ef 0 (by decide)).mpr f0), if_pos f0]
    rw [if_neg (show ¬ nI f = (0 : Int32) from fun z => f0 ((ef 0 (by decide)).mp z)), if_neg f0]
    by_cases f1 : f = 1
    · rw [if_pos (show nI f = (1 : Int32) from (ef 1 (by decide)).mpr f1), if_pos f1]
    rw [if_neg (show ¬ nI f = (1 : Int32) from fun z => f1 ((ef 1 (by decide)).mp z)), if_neg f1]
/-- a field that lies in the word -/
theorem im_364 {w kd wg o1 o2 o3 o4 t f : Nat} {x1 x2 x10 x11 x12 s0 : Int32} {k202 : MP → NC → AS → Int32 → Int32 → Int64 → Int32 → Int32 → Int32 → Int32 → Int32 → Int32 → Option (((MP × NC) × AS) × Int32)} {μ : MP} {ν : NC} {b : AS} (m1 : kd < 16) (m2 : wg < 2) (m3 : o1 ≤ 100) (m4 : o2 ≤ 100) (m5 : o3 ≤ 100) (m6 : o4 ≤ 100) (m7 : t ≤ 100000) (hf : f < 4) (hn : ¬ (kd = 8 ∧ o1 = 1 ∧ 1 < f)) : b_L_isMessage_364 k202 w μ ν b x1 x2 (nL (mcode kd wg o1 o2 o3 o4 t)) (nI kd) (nI o1) x10 x11 x12 (nI f) s0 = b_L_isMessage_547 k202 w μ ν b x1 x2 (nL (mcode kd wg o1 o2 o3 o4 t)) (nI kd) (nI o1) x10 x11 x12 (nI f) s0 (nI (if f = 0 then o1 else if f = 1 then o2 else if f = 2 then o3 else o4)) := by
  have hlt := mc_lt m1 m2 m3 m4 m5 m6 m7
  have hp : f_L_part w b (nL (mcode kd wg o1 o2 o3 o4 t)) ((5 : Int32) + (8 : Int32) * nI f) = some (nI (if f = 0 then o1 else if f = 1 then o2 else if f = 2 then o3 else o4)) := by
    rw [show (5 : Int32) + (8 : Int32) * nI f = nI (5 + 8 * f) from by rw [show (8 : Int32) = nI 8 from rfl, I_mul]; exact nI_add 5 (8 * f), f_part w b hlt (show 5 + 8 * f < 64 by omega)]
    rcases (show f = 0 ∨ f = 1 ∨ f = 2 ∨ f = 3 by omega) with rfl | rfl | rfl | rfl
    · rw [show 5 + 8 * 0 = 5 from rfl, mc_5 m1 m2 m3 m4 m5 m6]; rfl
    · rw [show 5 + 8 * 1 = 13 from rfl, mc_13 m1 m2 m3 m4 m5 m6]; rfl
    · rw [show 5 + 8 * 2 = 21 from rfl, mc_21 m1 m2 m3 m4 m5 m6]; rfl
    · rw [show 5 + 8 * 3 = 29 from rfl, mc_29 m1 m2 m3 m4 m5 m6]; rfl
  unfold b_L_isMessage_364
  rw [hp, Option.bind_some]
  by_cases c8 : kd = 8
  · rw [if_pos (show nI kd = (8 : Int32) by rw [c8]; rfl)]
    by_cases c1 : o1 = 1
    · rw [if_pos (show nI o1 = (1 : Int32) by rw [c1]; rfl), if_pos (show nI f ≤ (1 : Int32) from (nI_leI (a := f) (b := 1) (by omega) (by decide)).mpr (by omega))]
    · rw [if_neg (show ¬ nI o1 = (1 : Int32) from Ieq (b := 1) (by omega) (by decide) c1)]
  · rw [if_neg (show ¬ nI kd = (8 : Int32) from Ieq (b := 8) (by omega) (by decide) c8)]
/-- a field of a FILL's executions -/
theorem im_fill {w wg o2 o3 o4 t f : Nat} {x1 x2 x10 x11 x12 s0 : Int32} {k202 : MP → NC → AS → Int32 → Int32 → Int64 → Int32 → Int32 → Int32 → Int32 → Int32 → Int32 → Option (((MP × NC) × AS) × Int32)} {μ : MP} {ν : NC} {b a : AS} (h : LR Hh b a) (m2 : wg < 2) (m4 : o2 ≤ 100) (m5 : o3 ≤ 100) (m6 : o4 ≤ 100) (m7 : t ≤ 100000) (hf : 2 ≤ f) (hf2 : f < 3 + 4 * o4) (hE : o3 + o4 ≤ tn (a 0 35)) : ∃ T V : Int32, b_L_isMessage_364 k202 w μ ν b x1 x2 (nL (mcode 8 wg 1 o2 o3 o4 t)) (nI 8) (nI 1) x10 x11 x12 (nI f) s0 = b_L_isMessage_547 k202 w μ ν b x1 x2 (nL (mcode 8 wg 1 o2 o3 o4 t)) (nI 8) (nI 1) x10 x11 x12 (nI f) T V ∧ (f = 2 → T = nI 382 ∧ V = nI o4) ∧ ∀ i r, f = 3 + 4 * i + r → r < 4 → T = nI (if r = 0 then 17 else if r = 1 then 30 else if r = 2 then 31 else 32) ∧ V = (if r = 0 then nI (o3 + i) else if r = 1 then a 37 (o3 + i) else if r = 2 then a 40 (o3 + i) else a 39 (o3 + i)) := by
  have m1 : (8 : Nat) < 16 := by decide
  have m3 : (1 : Nat) ≤ 100 := by decide
  have hlt := mc_lt m1 m2 m3 m4 m5 m6 m7
  have p21 : f_L_part w b (nL (mcode 8 wg 1 o2 o3 o4 t)) (21 : Int32) = some (nI o3) := by rw [show (21 : Int32) = nI 21 from rfl, f_part w b hlt (by decide), mc_21 m1 m2 m3 m4 m5 m6]
  have p29 : f_L_part w b (nL (mcode 8 wg 1 o2 o3 o4 t)) (29 : Int32) = some (nI o4) := by rw [show (29 : Int32) = nI 29 from rfl, f_part w b hlt (by decide), mc_29 m1 m2 m3 m4 m5 m6]
  obtain ⟨E', eE', hE60⟩ := LR_E h
  have hEE : tn (a 0 35) = E' := by rw [eE', tnI (by omega)]
  have hoE : o3 + o4 ≤ E' := by rw [← hEE]; exact hE
  generalize hC : nL (mcode 8 wg 1 o2 o3 o4 t) = C at *
  unfold b_L_isMessage_364
  have hp : ∃ v, f_L_part w b C ((5 : Int32) + (8 : Int32) * nI f) = some v := ⟨_, rfl⟩
  obtain ⟨v16, e16⟩ := hp
  rw [e16, Option.bind_some, if_pos (show nI 8 = (8 : Int32) from rfl), if_pos (show nI 1 = (1 : Int32) from rfl), if_neg (show ¬ nI f ≤ (1 : Int32) from fun z => by have := (nI_leI (a := f) (b := 1) (by omega) (by decide)).mp z; omega), p21]
  simp only [yl, Option.bind_some]
  by_cases c2 : f = 2
  · rw [if_pos (show nI f = (2 : Int32) by rw [c2]; rfl)]
    unfold b_L_isMessage_469
    rw [if_pos (show nI f = (2 : Int32) by rw [c2]; rfl), p29, Option.bind_some]
    unfold b_L_isMessage_545
    exact ⟨_, _, rfl, fun _ => ⟨rfl, rfl⟩, fun i r hfr hr => by omega⟩
  · have n2 : ¬ nI f = (2 : Int32) := Ieq (b := 2) (by omega) (by decide) c2
    have e3 : nI f - (3 : Int32) = nI (f - 3) := by rw [show (3 : Int32) = nI 3 from rfl, pk_sub (by omega)]
    have ed : nI (f - 3) / (4 : Int32) = nI ((f - 3) / 4) := pk_div (by omega) (by decide) (by decide)
    have er : nI (f - 3) - nI ((f - 3) / 4) * (4 : Int32) = nI ((f - 3) % 4) := by rw [show (4 : Int32) = nI 4 from rfl, I_mul, pk_sub (Nat.div_mul_le_self _ _), mdn]
    rw [if_neg n2, e3, ed, er, nI_add]
    generalize hi : (f - 3) / 4 = i
    generalize hr : (f - 3) % 4 = r
    have hio : o3 + i < E' := by omega
    obtain ⟨he60, o, v, dy, sz, mp, hp, tp, kn, hb, tb, hX⟩ := LR_ex (e := o3 + i) h (by rw [hEE]; exact hio)
    obtain ⟨⟨⟨i1, i2, i3, i4, i5, i6, i7, i8, i9, i10⟩, x1', x2', x3', x4', x5', x6', x7', x8', x9', x10'⟩, eL⟩ := id hX
    have eb := ec_bits i1 i2 i3 i4 i5 i6 i7 i8 i9 i10
    have hCe := ec_lt i1 i2 i3 i4 i5 i6 i7 i8 i9 i10
    have i60 : ixB (nI (o3 + i)) 60 = true := ixn he60 (by decide)
    have c60 : (nI (o3 + i)).toNatClampNeg = o3 + i := nI_clamp (by omega)
    have b4 : Int64.toInt32 ((nL (ecode o v dy sz mp hp tp kn hb tb) >>> (Int32.toInt64 (4 : Int32) &&& 63)) &&& (3 : Int64)) = nI v := by
      have := L_bits (ecode o v dy sz mp hp tp kn hb tb) 4 2 hCe (by decide) (by decide)
      rw [show (4 : Int32) = nI 4 from rfl, show (3 : Int64) = nL (2 ^ 2 - 1) from rfl, this, nL_I]
      congr 1
      exact eb.2.1
    have uniq : ∀ i' r', f = 3 + 4 * i' + r' → r' < 4 → i' = i ∧ r' = r := fun i' r' h1 h2 => by omega
    rcases (show r = 0 ∨ r = 1 ∨ r = 2 ∨ r = 3 by omega) with rfl | rfl | rfl | rfl
    · rw [if_pos (show nI 0 = (0 : Int32) from rfl)]
      unfold b_L_isMessage_469
      rw [if_neg n2, if_pos (show nI 0 = (0 : Int32) from rfl)]
      unfold b_L_isMessage_545
      exact ⟨_, _, rfl, fun z => absurd z c2, fun i' r' h1 h2 => by obtain ⟨rfl, rfl⟩ := uniq i' r' h1 h2; exact ⟨rfl, rfl⟩⟩
    · rw [if_neg (show ¬ nI 1 = (0 : Int32) by decide), if_pos (show nI 1 = (1 : Int32) from rfl)]
      unfold b_L_isMessage_469
      rw [if_neg n2, if_neg (show ¬ nI 1 = (0 : Int32) by decide), if_pos (show nI 1 = (1 : Int32) from rfl), i60, c60, eL, b4]
      unfold b_L_isMessage_545
      exact ⟨_, _, rfl, fun z => absurd z c2, fun i' r' h1 h2 => by obtain ⟨rfl, rfl⟩ := uniq i' r' h1 h2; exact ⟨rfl, x2'.symm⟩⟩
    · rw [if_neg (show ¬ nI 2 = (0 : Int32) by decide), if_neg (show ¬ nI 2 = (1 : Int32) by decide), if_pos (show nI 2 = (2 : Int32) from rfl)]
      unfold b_L_isMessage_469
      rw [if_neg n2, if_neg (show ¬ nI 2 = (0 : Int32) by decide), if_neg (show ¬ nI 2 = (1 : Int32) by decide), if_pos (show nI 2 = (2 : Int32) from rfl), i60, c60, eL, show (21 : Int32) = nI 21 from rfl, f_price w b hCe (by decide), Option.bind_some, eb.2.2.2.2.1]
      unfold b_L_isMessage_545
      exact ⟨_, _, rfl, fun z => absurd z c2, fun i' r' h1 h2 => by obtain ⟨rfl, rfl⟩ := uniq i' r' h1 h2; exact ⟨rfl, x5'.symm⟩⟩
    · rw [if_neg (show ¬ nI 3 = (0 : Int32) by decide), if_neg (show ¬ nI 3 = (1 : Int32) by decide), if_neg (show ¬ nI 3 = (2 : Int32) by decide)]
      unfold b_L_isMessage_469
      rw [if_neg n2, if_neg (show ¬ nI 3 = (0 : Int32) by decide), if_neg (show ¬ nI 3 = (1 : Int32) by decide), if_neg (show ¬ nI 3 = (2 : Int32) by decide), i60, c60, eL, f_size w b hCe, Option.bind_some, eb.2.2.2.1]
      unfold b_L_isMessage_545
      exact ⟨_, _, rfl, fun z => absurd z c2, fun i' r' h1 h2 => by obtain ⟨rfl, rfl⟩ := uniq i' r' h1 h2; exact ⟨rfl, x4'.symm⟩⟩
