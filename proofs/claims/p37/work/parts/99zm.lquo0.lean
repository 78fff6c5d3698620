/-! trades: quotes; the next order by price and rank -/
variable {Hh Hg : Nat → Nat}
theorem I_lor (a b : Nat) (ha : a < 2 ^ 32) (hb : b < 2 ^ 32) : nI a ||| nI b = nI (a ||| b) := I_ext (by
  show BitVec.ofNat 32 a ||| BitVec.ofNat 32 b = BitVec.ofNat 32 (a ||| b)
  apply BitVec.eq_of_toNat_eq
  have hlt : a ||| b < 2 ^ 32 := Nat.or_lt_two_pow ha hb
  rw [BitVec.toNat_or, BitVec.toNat_ofNat, BitVec.toNat_ofNat, BitVec.toNat_ofNat, Nat.mod_eq_of_lt ha, Nat.mod_eq_of_lt hb, Nat.mod_eq_of_lt hlt])
/-- the orders that are done, as bits -/
def dnM (p : Nat → Nat) : Nat → Nat
  | 0 => 0
  | j + 1 => dnM p j ||| 2 ^ p j
theorem dnM_lt {p : Nat → Nat} : ∀ j, (∀ i, i < j → p i < 10) → dnM p j < 2 ^ 10
  | 0, _ => show 0 < 2 ^ 10 by decide
  | j + 1, h => Nat.or_lt_two_pow (dnM_lt j (fun i hi => h i (by omega))) (Nat.pow_lt_pow_right (by decide) (h j (by omega)))
theorem dnM_bit {p : Nat → Nat} {i : Nat} : ∀ j, (dnM p j).testBit i = true ↔ ∃ m, m < j ∧ p m = i
  | 0 => by
    unfold dnM
    rw [Nat.zero_testBit]
    exact ⟨fun h => absurd h (by decide), fun ⟨m, hm, _⟩ => absurd hm (Nat.not_lt_zero m)⟩
  | j + 1 => by
    show ((dnM p j ||| 2 ^ p j).testBit i = true) ↔ _
    rw [Nat.testBit_or, Nat.testBit_two_pow, Bool.or_eq_true, dnM_bit j, decide_eq_true_eq]
    constructor
    · rintro (⟨m, hm, e⟩ | e)
      · exact ⟨m, by omega, e⟩
      · exact ⟨j, by omega, e⟩
    · rintro ⟨m, hm, e⟩
      by_cases c : m = j
      · subst c; exact Or.inr e
      · exact Or.inl ⟨m, by omega, e⟩
theorem dn_test {C i : Nat} (hC : C < 2 ^ 10) (hi : i < 10) : (nI C >>> (nI i &&& 31)) &&& (1 : Int32) = (1 : Int32) ↔ C.testBit i = true := by
  have h1 : C / 2 ^ i ≤ C := Nat.div_le_self _ _
  rw [I_shr _ _ (by omega) (by omega), show (1 : Int32) = nI (2 ^ 1 - 1) from rfl, I_and _ 1 (by omega) (by decide), show nI (2 ^ 1 - 1) = nI 1 from rfl, nI_eq (by omega) (by decide), Nat.testBit_eq_decide_div_mod_eq, decide_eq_true_eq]
/-- what stands ahead -/
theorem ahead_as {b23 b25 b31 : Nat → Int32} {o o' d : Nat} (h1 : b23 o = nI d) (h2 : b23 o' = nI d) (h : aheadR b23 b25 b31 o o') : ¬ aheadR b23 b25 b31 o' o := by
  intro h'
  rcases h with ⟨e, l⟩ | ⟨e, l⟩
  · rcases h' with ⟨e', l'⟩ | ⟨e', -⟩
    · rw [Int32.lt_iff_toInt_lt] at l l'; omega
    · exact e' e.symm
  · rcases h' with ⟨e', -⟩ | ⟨-, l'⟩
    · exact e e'.symm
    · rw [h1] at l
      rw [h2] at l'
      rcases l with ⟨d0, l⟩ | ⟨d0, l⟩
      · rcases l' with ⟨d1, l'⟩ | ⟨d1, l'⟩
        · rw [Int32.lt_iff_toInt_lt] at l l'; omega
        · exact d1 d0
      · rcases l' with ⟨d1, l'⟩ | ⟨d1, l'⟩
        · exact d0 d1
        · rw [Int32.lt_iff_toInt_lt] at l l'; omega
/-- the list of ranks, without the class's pointers -/
def rlP (a : AS) (p : Nat → Nat) (K d : Nat) : Prop := (∀ i, i < K → p i < tn (a 0 22) ∧ a 24 (40 + p i) ≠ nI 0 ∧ a 23 (p i) = nI d) ∧ (∀ o, o < tn (a 0 22) → a 24 (40 + o) ≠ nI 0 → a 23 o = nI d → ∃ i, i < K ∧ p i = o) ∧ ∀ i j, i < j → j < K → aheadR (a 23) (a 25) (a 31) (p i) (p j)
theorem rlP_of {a : AS} {p : Nat → Nat} {K d : Nat} (h : rl a (fun i => p i + 1) K d) : rlP a p K d := by
  obtain ⟨h1, h2, h3⟩ := h
  refine ⟨fun i hi => ?_, fun o o1 o2 o3 => ?_, fun i j hij hj => ?_⟩
  · obtain ⟨o, o1, o2⟩ := h1 i hi
    have : p i = o := by have : p i + 1 = o + 1 := o1; omega
    rw [this]; exact o2
  · obtain ⟨i, hi, e⟩ := h2 o o1 o2 o3
    exact ⟨i, hi, by have : p i + 1 = o + 1 := e; omega⟩
  · have := h3 i j hij hj
    simp only [Nat.add_sub_cancel] at this
    exact this
theorem rlP_inj {a : AS} {p : Nat → Nat} {K d : Nat} (h : rlP a p K d) : ∀ i j, i < j → j < K → p i ≠ p j := fun i j hij hj e => by
  have := h.2.2 i j hij hj
  rw [e] at this
  exact ahead_as (h.1 j hj).2.2 (h.1 j hj).2.2 this this
theorem rlP_c {a b : AS} {p : Nat → Nat} {K d : Nat} (h : rlP a p K d) (h22 : b 0 22 = a 0 22) (h23 : b 23 = a 23) (h24 : b 24 = a 24) (h25 : b 25 = a 25) (h31 : b 31 = a 31) : rlP b p K d := by
  unfold rlP
  rw [h22, h23, h24, h25, h31]
  exact h
theorem rlP_ahead {a : AS} {p : Nat → Nat} {K d m m' : Nat} (h : rlP a p K d) (hm : m < K) (hm' : m' < K) (hne : m' ≠ m) : aheadR (a 23) (a 25) (a 31) (p m') (p m) ↔ m' < m := by
  constructor
  · intro ha
    by_cases c : m' < m
    · exact c
    · exact absurd ha (ahead_as (h.1 m hm).2.2 (h.1 m' hm').2.2 (h.2.2 m m' (by omega) hm'))
  · exact fun c => h.2.2 m' m c hm
/-- the candidate behind the first i orders -/
def cdQ (p : Nat → Nat) (K j i : Nat) (nx : Int32) : Prop := (nx = (-1 : Int32) ∧ ∀ m, j ≤ m → m < K → ¬ p m < i) ∨ ∃ m, j ≤ m ∧ m < K ∧ p m < i ∧ nx = nI (p m) ∧ ∀ m', j ≤ m' → m' < m → ¬ p m' < i
theorem lk_scan {w K d j O x16 x18 x19 x20 x21 x23 dn : Nat} {p : Nat → Nat} {k780 : MP → NC → AS → Int32 → Int32 → Int32 → Int32 → Int32 → Int32 → Int32 → Option (((MP × NC) × AS) × Int32)} {μ : MP} {ν : NC} {b a : AS} (h : LR Hh b a) (hd : d < 2) (hx18 : x18 = d) (hr : rlP a p K d) (hO : a 0 22 = nI O) (hOl : O ≤ 10) (hdn : dn = dnM p j) (hj : j ≤ K) : ∀ (e i n : Nat) (nx : Int32), i + e = O → e < n → cdQ p K j i nx → ∃ nx', cdQ p K j O nx' ∧ l_L_trades_796 k780 w n μ ν b (nI x16) (nI x18) (nI x19) (nI x20) (nI x21) (nI dn) (nI x23) nx (nI i) = (if (0 : Int32) ≤ nx' then ((f_L_route w b nx').bind (fun v50 => b_L_trades_983 k780 w μ ν v50.1 (nI x16) (nI x18) (nI x19) (nI x20) (nI x21) (nI dn ||| ((1 : Int32) <<< (nx' &&& 31))) (nI x23))) else b_L_trades_983 k780 w μ ν b (nI x16) (nI x18) (nI x19) (nI x20) (nI x21) (nI dn) (nI x23)) := by
  obtain ⟨O', eO, hO10⟩ := LR_O h
  have hOt : tn (a 0 22) ≤ 10 := LR_tnO h
  have eOO : tn (a 0 22) = O' := by rw [eO, tnI (by omega)]
  by_cases hOb : O < 2 ^ 31
  · have eO' : O' = O := (nI_eq (by omega) hOb).mp (eO.symm.trans hO)
    subst eO'
    have r18 : b 1 18 = nI O' := h.2.1.2.2.1.trans eO
    have hp10 : ∀ m, m < K → p m < O' := fun m hm => by have := (hr.1 m hm).1; rw [eOO] at this; exact this
    have hdlt : dn < 2 ^ 10 := by rw [hdn]; exact dnM_lt j (fun i hi => by have := hp10 i (by omega); omega)
    intro e
    induction e with
    | zero =>
      intro i n nx h1 h2 hQ
      obtain ⟨n, rfl⟩ : ∃ n', n = n' + 1 := ⟨n - 1, by omega⟩
      refine ⟨nx, by rw [show O' = i by omega]; exact hQ, ?_⟩
      show b_L_trades_796 k780 _ w μ ν b _ _ _ _ _ _ _ _ _ = _
      unfold b_L_trades_796
      rw [show ixB (18 : Int32) 22 = true from rfl, show (18 : Int32).toNatClampNeg = 18 from rfl, r18]
      simp only [cond_true, yl]
      rw [if_pos ((nI_leI (by omega) (by omega)).mpr (by omega))]
    | succ e ih =>
      intro i n nx h1 h2 hQ
      obtain ⟨n, rfl⟩ : ∃ n', n = n' + 1 := ⟨n - 1, by omega⟩
      have hi10 : i < 10 := by omega
      have hiO : i < tn (a 0 22) := by rw [eOO]; omega
      obtain ⟨-, se, kn, ha, le, un, rk, ⟨⟨g1, g2, g3, g4, g5, g6⟩, r1, r2, r3, r4, r5, r6⟩, e12⟩ := L6_at h.2.2.2.2.2.2.1 hiO
      have kd := kd_bits g1 g2 g3 g4 g5 g6
      have skip : ∀ nx' : Int32, cdQ p K j (i + 1) nx' → ∃ nx'', cdQ p K j O' nx'' ∧ b_L_trades_931 k780 (l_L_trades_796 k780 w n) w μ ν b (nI x16) (nI x18) (nI x19) (nI x20) (nI x21) (nI dn) (nI x23) nx' (nI i) = (if (0 : Int32) ≤ nx'' then ((f_L_route w b nx'').bind (fun v50 => b_L_trades_983 k780 w μ ν v50.1 (nI x16) (nI x18) (nI x19) (nI x20) (nI x21) (nI dn ||| ((1 : Int32) <<< (nx'' &&& 31))) (nI x23))) else b_L_trades_983 k780 w μ ν b (nI x16) (nI x18) (nI x19) (nI x20) (nI x21) (nI dn) (nI x23)) := fun nx' hQ' => by
        obtain ⟨nx'', i1, i2⟩ := ih (i + 1) n nx' (by omega) (by omega) hQ'
        refine ⟨nx'', i1, ?_⟩
        rw [← i2]
        unfold b_L_trades_931
        rw [show nI i + (1 : Int32) = nI (i + 1) from nI_add i 1]
        rfl
      -- nothing new where i isn't to be chosen
      have noth : (∀ m, j ≤ m → m < K → p m ≠ i) → cdQ p K j (i + 1) nx := fun hno => by
        rcases hQ with ⟨q1, q2⟩ | ⟨m, m1, m2, m3, m4, m5⟩
        · exact Or.inl ⟨q1, fun m m1 m2 => by have := q2 m m1 m2; have := hno m m1 m2; omega⟩
        · exact Or.inr ⟨m, m1, m2, by omega, m4, fun m' w1 w2 => by have := m5 m' w1 w2; have := hno m' w1 (by omega); omega⟩
      show ∃ nx', cdQ p K j O' nx' ∧ b_L_trades_796 k780 (l_L_trades_796 k780 w n) w μ ν b _ _ _ _ _ _ _ _ _ = _
      unfold b_L_trades_796
      rw [show ixB (18 : Int32) 22 = true from rfl, show (18 : Int32).toNatClampNeg = 18 from rfl, r18]
      simp only [cond_true]
      rw [if_neg (fun z => by have := (nI_leI (by omega) (by omega)).mp z; omega)]
      by_cases cb : (nI dn >>> (nI i &&& 31)) &&& (1 : Int32) = (1 : Int32)
      · rw [if_pos cb]
        refine skip nx (noth (fun m m1 m2 e1 => ?_))
        obtain ⟨m', q1, q2⟩ := (dnM_bit j).mp (by rw [← hdn]; exact (dn_test hdlt hi10).mp cb)
        exact rlP_inj hr m' m (by omega) m2 (q2.trans e1.symm)
      rw [if_neg cb, ixn hi10 (by decide), nI_clamp (show i < 2 ^ 31 by omega), e12, kd.2.2.1, kd.1]
      simp only [cond_true]
      by_cases ch : ha = 0
      · rw [if_pos (show nI (4 * ha) = (0 : Int32) by rw [ch]; rfl)]
        exact skip nx (noth (fun m m1 m2 e1 => (hr.1 m m2).2.1 (by rw [e1, r3, ch])))
      rw [if_neg (show ¬ nI (4 * ha) = (0 : Int32) from Ieq (b := 0) (by omega) (by decide) (by omega))]
      have h844 : ∀ s0 : Int32, s0 = nI d → ∃ nx', cdQ p K j O' nx' ∧ b_L_trades_844 k780 (l_L_trades_796 k780 w n) w μ ν b (nI x16) (nI x18) (nI x19) (nI x20) (nI x21) (nI dn) (nI x23) nx (nI i) s0 (nI se) = (if (0 : Int32) ≤ nx' then ((f_L_route w b nx').bind (fun v50 => b_L_trades_983 k780 w μ ν v50.1 (nI x16) (nI x18) (nI x19) (nI x20) (nI x21) (nI dn ||| ((1 : Int32) <<< (nx' &&& 31))) (nI x23))) else b_L_trades_983 k780 w μ ν b (nI x16) (nI x18) (nI x19) (nI x20) (nI x21) (nI dn) (nI x23)) := fun s0 es => by
        subst es
        unfold b_L_trades_844
        by_cases cs : se = d
        · subst cs
          rw [if_pos rfl]
          -- i is to be had: it is p m'
          obtain ⟨m', q1, q2⟩ := hr.2.1 i hiO (by rw [r3]; exact Ieq (by omega) (by decide) ch) r1
          have hjm : j ≤ m' := Nat.le_of_not_lt (fun z => cb ((dn_test hdlt hi10).mpr (by rw [hdn]; exact (dnM_bit j).mpr ⟨m', z, q2⟩)))
          have k927 : cdQ p K j (i + 1) (nI i) → ∃ nx'', cdQ p K j O' nx'' ∧ b_L_trades_927 k780 (l_L_trades_796 k780 w n) w μ ν b (nI x16) (nI x18) (nI x19) (nI x20) (nI x21) (nI dn) (nI x23) (nI i) = (if (0 : Int32) ≤ nx'' then ((f_L_route w b nx'').bind (fun v50 => b_L_trades_983 k780 w μ ν v50.1 (nI x16) (nI x18) (nI x19) (nI x20) (nI x21) (nI dn ||| ((1 : Int32) <<< (nx'' &&& 31))) (nI x23))) else b_L_trades_983 k780 w μ ν b (nI x16) (nI x18) (nI x19) (nI x20) (nI x21) (nI dn) (nI x23)) := fun hq => by
            unfold b_L_trades_927
            exact skip (nI i) hq
          rcases hQ with ⟨z1, z2⟩ | ⟨m, m1, m2, m3, m4, m5⟩
          · -- the first one
            subst z1
            rw [if_neg (show ¬ (0 : Int32) ≤ (-1 : Int32) by decide)]
            unfold b_L_trades_876
            rw [if_pos (show (-1 : Int32) < 0 by decide)]
            exact k927 (Or.inr ⟨m', hjm, q1, by omega, by rw [q2], fun m'' w1 w2 => by
              have hz := z2 m'' w1 (by omega)
              have hne := rlP_inj hr m'' m' w2 q1
              omega⟩)
          · subst m4
            have hpm := hp10 m m2
            have hne : m' ≠ m := fun z => by rw [z] at q2; omega
            have hah := rlP_ahead hr m2 q1 hne
            rw [q2] at hah
            have fresh : m' < m → cdQ p K j (i + 1) (nI i) := fun hlt => Or.inr ⟨m', hjm, q1, by omega, by rw [q2], fun m'' w1 w2 => by
              have hz := m5 m'' w1 (by omega)
              have hne := rlP_inj hr m'' m' w2 q1
              omega⟩
            have stay : ¬ m' < m → cdQ p K j (i + 1) (nI (p m)) := fun hlt => Or.inr ⟨m, m1, m2, by omega, rfl, fun m'' w1 w2 => by
              have hz := m5 m'' w1 w2
              have : p m'' ≠ i := fun z => rlP_inj hr m'' m' (by omega) q1 (by rw [z, q2])
              omega⟩
            obtain ⟨f1, -, -, -, Pi, -, hPi, -, ePi, -⟩ := h.2.2.2.2.2.1 1 i (by decide) hi10
            obtain ⟨f2, -, -, -, Pm, -, hPm, -, ePm, -⟩ := h.2.2.2.2.2.1 1 (p m) (by decide) (by omega)
            have ePi' : a 25 (40 + i) = nI Pi := ePi
            have ePm' : a 25 (40 + p m) = nI Pm := ePm
            have f1' : b 8 (10 + i) = nI Pi := (show b 8 (10 + i) = a 25 (40 + i) from f1).trans ePi'
            have f2' : b 8 (10 + p m) = nI Pm := (show b 8 (10 + p m) = a 25 (40 + p m) from f2).trans ePm'
            obtain ⟨-, se2, kn2, ha2, le2, un2, rk2, ⟨⟨y1, y2, y3, y4, y5, y6⟩, t1, t2, t3, t4, t5, t6⟩, e12m⟩ := L6_at h.2.2.2.2.2.2.1 (show p m < tn (a 0 22) by rw [eOO]; exact hpm)
            have kd2 := kd_bits y1 y2 y3 y4 y5 y6
            rw [if_pos (show (0 : Int32) ≤ nI (p m) from (nI_leI (a := 0) (b := p m) (by decide) (by omega)).mpr (Nat.zero_le _)), show (10 : Int32) + nI i = nI (10 + i) from nI_add 10 i, show (10 : Int32) + nI (p m) = nI (10 + p m) from nI_add 10 (p m), ixn (show 10 + i < 20 by omega) (by decide), ixn (show 10 + p m < 20 by omega) (by decide), nI_clamp (show 10 + i < 2 ^ 31 by omega), nI_clamp (show 10 + p m < 2 ^ 31 by omega), f1', f2']
            simp only [cond_true]
            have s23 : a 23 i = nI se := r1
            have ah2 : aheadR (a 23) (a 25) (a 31) i (p m) ↔ (Pi = Pm ∧ rk < rk2) ∨ (Pi ≠ Pm ∧ ((se = 0 ∧ Pm < Pi) ∨ (se ≠ 0 ∧ Pi < Pm))) := by
              unfold aheadR
              rw [ePi', ePm', r6, t6, s23, nI_eq (by omega) (by omega), nI_ltI (by omega) (by omega), nI_ltI (by omega) (by omega), nI_ltI (by omega) (by omega)]
              have : nI se = nI 0 ↔ se = 0 := nI_eq (by omega) (by decide)
              rw [this]
              have : nI Pi ≠ nI Pm ↔ Pi ≠ Pm := not_congr (nI_eq (by omega) (by omega))
              rw [this]
              have : nI se ≠ nI 0 ↔ se ≠ 0 := not_congr (nI_eq (by omega) (by decide))
              rw [this]
            unfold b_L_trades_876
            rw [if_neg (show ¬ nI (p m) < (0 : Int32) from fun z => by have := (nI_ltI (a := p m) (b := 0) (by omega) (by decide)).mp z; omega)]
            have k903 : ∀ s0 : Int32, (s0 = (0 : Int32) → Pi = Pm) → (s0 ≠ (0 : Int32) → ¬ m' < m) → ∃ nx'', cdQ p K j O' nx'' ∧ b_L_trades_903 k780 (l_L_trades_796 k780 w n) w μ ν b (nI x16) (nI x18) (nI x19) (nI x20) (nI x21) (nI dn) (nI x23) (nI (p m)) (nI i) s0 = (if (0 : Int32) ≤ nx'' then ((f_L_route w b nx'').bind (fun v50 => b_L_trades_983 k780 w μ ν v50.1 (nI x16) (nI x18) (nI x19) (nI x20) (nI x21) (nI dn ||| ((1 : Int32) <<< (nx'' &&& 31))) (nI x23))) else b_L_trades_983 k780 w μ ν b (nI x16) (nI x18) (nI x19) (nI x20) (nI x21) (nI dn) (nI x23)) := fun s0 hz hnz => by
              unfold b_L_trades_903
              by_cases c0 : s0 = (0 : Int32)
              · have eP := hz c0
                rw [if_pos c0, ixn hi10 (by decide), ixn (show p m < 10 by omega) (by decide), nI_clamp (show i < 2 ^ 31 by omega), nI_clamp (show p m < 2 ^ 31 by omega), e12, e12m, kd.2.2.2.2.2.1, kd2.2.2.2.2.2.1]
                simp only [cond_true]
                by_cases cr : nI rk2 ≤ nI rk
                · rw [if_pos cr]
                  have : ¬ m' < m := fun z => by
                    have := ah2.mp (hah.mpr z)
                    rw [nI_leI (by omega) (by omega)] at cr
                    omega
                  exact skip _ (stay this)
                · rw [if_neg cr]
                  have : m' < m := hah.mp (ah2.mpr (Or.inl ⟨eP, by rw [nI_leI (by omega) (by omega)] at cr; omega⟩))
                  exact k927 (fresh this)
              · rw [if_neg c0]
                exact skip _ (stay (hnz c0))
            by_cases cP : Pi = Pm
            · rw [if_pos (show nI Pi - nI Pm = (0 : Int32) by rw [cP]; exact Int32.sub_self _)]
              refine k903 _ (fun _ => cP) (fun z => absurd ?_ z)
              rw [cP]; exact Int32.sub_self _
            · have hfar : nI Pi - nI Pm ≤ (0 : Int32) ↔ Pi < Pm := by
                rw [Int32.le_iff_toInt_le, show (0 : Int32).toInt = 0 from rfl]
                have : (nI Pi - nI Pm).toInt = (Pi : Int) - Pm := by
                  rw [Int32.toInt_sub, nI_toInt (by omega), nI_toInt (by omega), Int.bmod_eq_of_le (by omega) (by omega)]
                rw [this]; omega
              have hn0 : ¬ nI Pi - nI Pm = (0 : Int32) := fun z => by
                have h1 : (nI Pi - nI Pm).toInt = (Pi : Int) - Pm := by
                  rw [Int32.toInt_sub, nI_toInt (by omega), nI_toInt (by omega), Int.bmod_eq_of_le (by omega) (by omega)]
                rw [z, show (0 : Int32).toInt = 0 from rfl] at h1
                omega
              rw [if_neg hn0]
              have h898 : ∀ s1 : Nat, s1 < 2 → (s1 = se → ¬ m' < m) → (s1 ≠ se → m' < m) → ∃ nx'', cdQ p K j O' nx'' ∧ b_L_trades_898 k780 (l_L_trades_796 k780 w n) w μ ν b (nI x16) (nI x18) (nI x19) (nI x20) (nI x21) (nI dn) (nI x23) (nI (p m)) (nI i) (nI Pi - nI Pm) (nI s1) = (if (0 : Int32) ≤ nx'' then ((f_L_route w b nx'').bind (fun v50 => b_L_trades_983 k780 w μ ν v50.1 (nI x16) (nI x18) (nI x19) (nI x20) (nI x21) (nI dn ||| ((1 : Int32) <<< (nx'' &&& 31))) (nI x23))) else b_L_trades_983 k780 w μ ν b (nI x16) (nI x18) (nI x19) (nI x20) (nI x21) (nI dn) (nI x23)) := fun s1 hs1 e1 e2 => by
                unfold b_L_trades_898
                by_cases c : s1 = se
                · rw [if_pos (show nI s1 = nI x18 by rw [c, hx18])]
                  exact k903 _ (fun z => absurd z hn0) (fun _ => e1 c)
                · rw [if_neg (show ¬ nI s1 = nI x18 from Ieq (by omega) (by omega) (by rw [hx18]; exact c))]
                  exact k927 (fresh (e2 c))
              by_cases cl : nI Pi - nI Pm ≤ (0 : Int32)
              · rw [if_pos cl]
                have hlt := hfar.mp cl
                exact h898 0 (by decide) (fun z y => by have := ah2.mp (hah.mpr y); omega) (fun z => hah.mp (ah2.mpr (Or.inr ⟨cP, Or.inr ⟨fun y => z y.symm, hlt⟩⟩)))
              · rw [if_neg cl]
                have hlt : ¬ Pi < Pm := fun z => cl (hfar.mpr z)
                exact h898 1 (by decide) (fun z y => by have := ah2.mp (hah.mpr y); omega) (fun z => hah.mp (ah2.mpr (Or.inr ⟨cP, Or.inl ⟨by omega, by omega⟩⟩)))
        · rw [if_neg (show ¬ nI se = nI d from Ieq (by omega) (by omega) cs)]
          exact skip nx (noth (fun m m1 m2 e1 => by
            have := (hr.1 m m2).2.2
            rw [e1, r1] at this
            exact cs ((nI_eq (by omega) (by omega)).mp this)))
      rcases (show d = 0 ∨ d = 1 by omega) with rfl | rfl
      · rw [if_pos (show nI x18 = (0 : Int32) by rw [hx18]; rfl)]; exact h844 0 rfl
      · rw [if_neg (show ¬ nI x18 = (0 : Int32) by rw [hx18]; decide)]; exact h844 1 rfl
  · exact absurd (show O < 2 ^ 31 by omega) hOb
