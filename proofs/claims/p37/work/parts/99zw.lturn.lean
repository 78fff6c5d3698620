/-! A turn -/
variable {Hh Hg : Nat → Nat}
def tuR (N T i : Nat) (k136 : MP → NC → AS → Int32 → Option (((MP × NC) × AS) × Int32)) (x : Option (((MP × NC) × AS) × Int32)) : Prop := ∃ (μ' : MP) (ν' : NC) (b' a' : AS), x = k136 μ' ν' b' (nI (i + 1)) ∧ JC N T μ' ν' a' ∧ LR Zh b' a'
theorem tu_le {N T i N' T' : Nat} {k136 : MP → NC → AS → Int32 → Option (((MP × NC) × AS) × Int32)} {x : Option (((MP × NC) × AS) × Int32)} (g : tuR N T i k136 x) (h1 : N ≤ N') (h2 : T ≤ T') : tuR N' T' i k136 x := by
  obtain ⟨μ', ν', b', a', e1, e2, e3⟩ := g
  exact ⟨μ', ν', b', a', e1, JC_le e2 h1 h2, e3⟩
theorem tu_452 {L w N T i : Nat} {xs : Nat → Int32} {x17 x19 : Int32} {k136 : MP → NC → AS → Int32 → Option (((MP × NC) × AS) × Int32)} {X : Option (((MP × NC) × AS) × Int32)} (hw : 1000 < w) (hN : N ≤ 512) (g : lnR N T X) : tuR N (T + 23) i k136 (X.bind (fun v => b_L_law_452 L xs k136 w v.1.1.1 v.1.1.2 v.1.2 (nI i) x17 x19 v.2)) := by
  obtain ⟨μ', ν', b', a', rfl, hJ, hL⟩ := g
  obtain ⟨ν'', e, hJ'⟩ := lk_told (x1 := (x17 >>> ((4 : Int32) &&& 31)) ^^^ x19) hw hN hJ hL
  refine ⟨μ', ν'', b', a', ?_, hJ', hL⟩
  rw [Option.bind_some]
  unfold b_L_law_452
  dsimp only
  rw [if_neg (show ¬ (1 : Int32) = 0 by decide), e, Option.bind_some]
  unfold b_L_law_493
  dsimp only
  rw [if_neg (show ¬ (1 : Int32) = 0 by decide)]
  simp only [yl]
  rw [show nI i + (1 : Int32) = nI (i + 1) from nI_add i 1]
def smal (a : AS) : Prop := (∀ t, t < 2 → tn (a 4 t) ≤ 19) ∧ (∀ t, t < 2 → tn (a 20 t) ≤ 90) ∧ tn (a 0 35) ≤ 40 ∧ tn (a 0 44) ≤ 200
theorem tu_333 {L w N T i act : Nat} {xs : Nat → Int32} {x17 x18 x19 s0 : Int32} {k136 : MP → NC → AS → Int32 → Option (((MP × NC) × AS) × Int32)} {μ : MP} {ν : NC} {b a : AS} (hw : 8200 < w) (hN : N + 1 ≤ 512) (hJ : JC N T μ ν a) (h : LR Zh b a) (hs : smal a) (hact : act < 24) : tuR (N + 1) (T + 31) i k136 (b_L_law_333 L xs k136 w μ ν b (nI i) x17 x18 x19 (nI act) s0) := by
  obtain ⟨s1, s2, s3, s4⟩ := hs
  have tr : ∀ (x : Int32) (z : Nat), x = nI z → z < 12 → tuR (N + 1) (T + 31) i k136 (b_L_law_423 L xs k136 w μ ν b (nI i) x17 x18 x19 x) := fun x z hx hz => by
    subst hx
    unfold b_L_law_423
    exact tu_le (tu_452 (by omega) hN (lk_trades hw hN hz hJ h s1 s2 s3 s4)) (Nat.le_refl _) (by omega)
  have ln : ∀ y : Int32, act < 10 → tuR (N + 1) (T + 31) i k136 (b_L_law_360 L xs k136 w μ ν b (nI i) x17 x19 y (nI act)) := fun y ha => by
    unfold b_L_law_360
    have g := tu_452 (L := L) (xs := xs) (x17 := x17) (x19 := x19) (k136 := k136) (i := i) (show 1000 < w by omega) hN (lk_lines (y := y) (v := x19) hw hN ha hJ h s1 s2 s3)
    exact tu_le g (Nat.le_refl _) (by omega)
  unfold b_L_law_333
  by_cases c : 10 ≤ act
  · rw [if_pos (show (10 : Int32) ≤ nI act from (nI_leI (a := 10) (b := act) (by decide) (by omega)).mpr c)]
    by_cases c1 : 22 ≤ act
    · rw [if_pos (show (22 : Int32) ≤ nI act from (nI_leI (a := 22) (b := act) (by decide) (by omega)).mpr c1)]
      by_cases c2 : nI act = (22 : Int32)
      · rw [if_pos c2]
        exact tr _ 0 rfl (by decide)
      · rw [if_neg c2]
        exact tr _ 6 rfl (by decide)
    · rw [if_neg (show ¬ (22 : Int32) ≤ nI act from fun z => c1 ((nI_leI (a := 22) (b := act) (by decide) (by omega)).mp z))]
      exact tr _ (act - 10) (pk_sub (a := act) (b := 10) (by omega)) (by omega)
  · rw [if_neg (show ¬ (10 : Int32) ≤ nI act from fun z => c ((nI_leI (a := 10) (b := act) (by decide) (by omega)).mp z))]
    by_cases c1 : (3 : Int32) ≤ nI i
    · rw [if_pos c1]
      exact ln _ (by omega)
    · rw [if_neg c1]
      exact ln _ (by omega)
theorem tu_279 {L w N T i : Nat} {xs : Nat → Int32} {x17 x18 x19 : Int32} {k136 : MP → NC → AS → Int32 → Option (((MP × NC) × AS) × Int32)} {μ : MP} {ν : NC} {b a : AS} (hw : 8200 < w) (hN : N + 1 ≤ 512) (hJ : JC N T μ ν a) (h : LR Zh b a) (hs : smal a) : tuR (N + 1) (T + 31) i k136 (b_L_law_279 L xs k136 w μ ν b (nI i) x17 x18 x19) := by
  have go : ∀ (x : Int32) (z : Nat), x = nI z → z < 24 → tuR (N + 1) (T + 31) i k136 (b_L_law_318 L xs k136 w μ ν b (nI i) x17 x18 x19 x) := fun x z hx hz => by
    subst hx
    unfold b_L_law_318
    by_cases c : (3 : Int32) ≤ nI i
    · rw [if_pos c]
      exact tu_333 hw hN hJ h hs hz
    · rw [if_neg c]
      exact tu_333 hw hN hJ h hs hz
  unfold b_L_law_279
  by_cases c1 : (1 : Int32) ≤ nI i
  · rw [if_pos c1]
    by_cases c3 : (3 : Int32) ≤ nI i
    · rw [if_pos c3]
      by_cases c6 : (6 : Int32) ≤ nI i
      · rw [if_pos c6]
        obtain ⟨r, hr, el⟩ := lk_low w b x17 (show 1 ≤ 24 by decide) (show 24 < 2 ^ 31 by decide)
        rw [show (24 : Int32) = nI 24 from rfl, el, Option.bind_some]
        exact go _ r rfl hr
      · rw [if_neg c6]
        exact go _ 10 rfl (by decide)
    · rw [if_neg c3]
      exact go _ 1 rfl (by decide)
  · rw [if_neg c1]
    exact go _ 0 rfl (by decide)
theorem con_smal {a : AS} (h20 : ∀ t, t < 2 → a 20 t = nI 0) (hE : tn (a 0 35) ≤ 40) (hD : tn (a 0 44) ≤ 200) : smal (gConnect a true) := by
  have v : ∀ s, s < 2 → gCon0 a true 4 s = nI 0 := fun s hs => (gCon0_v a true s hs).1
  have w20 : gCon0 a true 20 = a 20 := gCon0_r a true 20 (by decide) (by decide) (by decide) (by decide) (by decide)
  have w0 : ∀ i, i ≠ 0 → i ≠ 2 → gConnect a true 0 i = a 0 i := fun i h0 h2 => by
    unfold gConnect
    rw [gSnd0, gSnd0, gCon0_0 a true i h0, if_neg h2]
  have b0 := snd_bd (gCon0 a true) 0 (nI 0) (nI 0) (nI 0) (nI 0) (nI 0)
  have b1 := snd_bd (gSends (gCon0 a true) 0 (nI 0) (nI 0) (nI 0) (nI 0) (nI 0)) 1 (nI 0) (nI 0) (nI 0) (nI 0) (nI 0)
  have z0 : tn (nI 0) = 0 := rfl
  rw [v 0 (by decide), w20] at b0
  rw [gS_4 _ _ _ _ _ _ _ (show 1 ≠ 0 by decide), v 1 (by decide), gS_20 _ _ _ _ _ _ _ (show 1 - 1 ≠ 1 - 0 by decide), w20] at b1
  have e0 := h20 0 (by decide)
  have e1 := h20 1 (by decide)
  simp only [Nat.sub_self, Nat.sub_zero] at b0 b1
  rw [e1, z0] at b0
  rw [e0, z0] at b1
  refine ⟨fun t ht => ?_, fun t ht => ?_, ?_, ?_⟩
  · unfold gConnect
    rcases (show t = 0 ∨ t = 1 by omega) with rfl | rfl
    · rw [gS_4 _ _ _ _ _ _ _ (show 0 ≠ 1 by decide)]
      omega
    · omega
  · unfold gConnect
    rcases (show t = 0 ∨ t = 1 by omega) with rfl | rfl
    · omega
    · rw [gS_20 _ _ _ _ _ _ _ (show 1 ≠ 1 - 1 by decide)]
      omega
  · rw [w0 35 (by decide) (by decide)]
    exact hE
  · rw [w0 44 (by decide) (by decide)]
    exact hD
theorem tu_257 {L w N T i : Nat} {xs : Nat → Int32} {x17 x18 x19 : Int32} {k136 : MP → NC → AS → Int32 → Option (((MP × NC) × AS) × Int32)} {μ : MP} {ν : NC} {b a : AS} (hw : 8200 < w) (hN : N + 2 ≤ 512) (hJ : JC N T μ ν a) (h : LR Zh b a) (hd : a 0 2 = nI 0) (hE : tn (a 0 35) ≤ 40) (hD : tn (a 0 44) ≤ 200) : tuR (N + 2) (T + 31) i k136 (b_L_law_257 L xs k136 w μ ν b (nI i) x17 x18 x19) := by
  have h20 : ∀ t, t < 2 → a 20 t = nI 0 := fun t ht => by
    obtain ⟨-, -, -, -, -, -, -, v8, -⟩ := (JC_sv hJ).2.2 t ht
    exact (v8 hd).2.1
  obtain ⟨b1, u1, u2⟩ := lk_up (w := w) (z := true) h hd (by omega) (fun s hs z => absurd z (by decide)) (fun s hs => by rw [h20 s hs]; decide)
  obtain ⟨μ', ν', c1, c2⟩ := jc_con (w := w) true (by omega) hJ hd
  simp only [if_true] at u1 c1
  unfold b_L_law_257
  rw [u1, Option.bind_some, show (1 : Int32) = nI 1 from rfl, c1, Option.bind_some]
  unfold b_L_law_274
  dsimp only
  rw [if_pos rfl]
  exact tu_279 hw (by omega) c2 u2 (con_smal h20 hE hD)
theorem tu_233 {L w N T i : Nat} {xs : Nat → Int32} {x17 x18 x19 : Int32} {k136 : MP → NC → AS → Int32 → Option (((MP × NC) × AS) × Int32)} {μ : MP} {ν : NC} {b a : AS} (hw : 8200 < w) (hN : N + 2 ≤ 512) (hJ : JC N T μ ν a) (h : LR Zh b a) (hE : tn (a 0 35) ≤ 40) (hD : tn (a 0 44) ≤ 200) : tuR (N + 2) (T + 31) i k136 (b_L_law_233 L xs k136 w μ ν b (nI i) x17 x18 x19) := by
  unfold b_L_law_233
  rw [show ixB (1 : Int32) 22 = true from rfl, show (1 : Int32).toNatClampNeg = 1 from rfl, show b 1 1 = a 0 2 from h.2.1.2.1, cond_true]
  by_cases cu : a 0 2 = (1 : Int32)
  · have hup : ¬ a 0 2 = nI 0 := by rw [cu]; decide
    obtain ⟨μ', g1, g2⟩ := jc_cut (w := w) hJ hup
    obtain ⟨b', d1, d2⟩ := lk_down (Hg := Zh) (w := w) h (by omega)
    rw [if_pos cu, g1, Option.bind_some]
    unfold b_L_law_244
    dsimp only
    rw [d1, Option.bind_some, if_pos rfl]
    exact tu_257 hw hN g2 d2 (by rw [gDown_00, if_pos rfl]) (by rw [gDown_00, if_neg (by decide), up2_n _ _ (by omega)]; exact hE) (by rw [gDown_00, if_neg (by decide), up2_n _ _ (by omega)]; exact hD)
  · have hd : a 0 2 = nI 0 := (JC_sv hJ).2.1.resolve_right cu
    rw [if_neg cu]
    exact tu_257 hw hN hJ h hd hE hD
theorem f_cell {L k : Nat} {xs : Nat → Int32} (hL : L ≤ 260) (hk : k < 1000) : ∃ x : Int32, f_L_cell L xs (nI k) = some x := by
  unfold f_L_cell
  by_cases c : Int32.ofNat L ≤ nI k
  · rw [if_pos c]
    exact ⟨_, rfl⟩
  · rw [if_neg c, ixn (show k < L from Nat.lt_of_not_le fun z => c ((nI_leI (a := L) (b := k) (by omega) (by omega)).mpr z)) (by omega), cond_true]
    exact ⟨_, rfl⟩
theorem tu_136 {L w N T i : Nat} {xs : Nat → Int32} {k136 : MP → NC → AS → Int32 → Option (((MP × NC) × AS) × Int32)} {μ : MP} {ν : NC} {b a : AS} (hL : L ≤ 260) (hi : i < 130) (hw : 8200 < w) (hN : N + 2 ≤ 512) (hJ : JC N T μ ν a) (h : LR Zh b a) : b_L_law_136 L xs k136 w μ ν b (nI i) = some (((μ, ν), b), (1 : Int32)) ∨ tuR (N + 2) (T + 31) i k136 (b_L_law_136 L xs k136 w μ ν b (nI i)) := by
  obtain ⟨g1, g2, g3, g4, g5, g6, gS⟩ := h.2.1
  obtain ⟨-, r4, -, -, -, -, -, r16⟩ := gS 0 (by decide)
  obtain ⟨-, r5, -, -, -, -, -, r17⟩ := gS 1 (by decide)
  obtain ⟨E, eE, hE⟩ := LR_E h
  obtain ⟨D, eD, hD⟩ := h.1.2
  obtain ⟨P0, p0, hP0, -⟩ := h.2.2.2.1 0 (by decide)
  obtain ⟨P1, p1, hP1, -⟩ := h.2.2.2.1 1 (by decide)
  obtain ⟨-, c0, -, -, -, -, k0, hc0, -⟩ := h.2.2.1 0 (by decide)
  obtain ⟨-, c1, -, -, -, -, k1, hc1, -⟩ := h.2.2.1 1 (by decide)
  obtain ⟨w6, f6⟩ := f_cell (L := L) (xs := xs) (k := 3 * i) hL (by omega)
  obtain ⟨w7, f7⟩ := f_cell (L := L) (xs := xs) (k := 3 * i + 1) hL (by omega)
  obtain ⟨w8, f8⟩ := f_cell (L := L) (xs := xs) (k := 3 * i + 2) hL (by omega)
  have m3 : (3 : Int32) * nI i = nI (3 * i) := I_mul 3 i
  unfold b_L_law_136
  rw [if_neg (show ¬ (130 : Int32) ≤ nI i from fun z => by have := (nI_leI (a := 130) (b := i) (by decide) (by omega)).mp z; omega), m3, show nI (3 * i) + (1 : Int32) = nI (3 * i + 1) from nI_add (3 * i) 1, show nI (3 * i) + (2 : Int32) = nI (3 * i + 2) from nI_add (3 * i) 2, f6, Option.bind_some, f7, Option.bind_some, f8, Option.bind_some, show ixB (19 : Int32) 22 = true from rfl, show (19 : Int32).toNatClampNeg = 19 from rfl, g4, eE, cond_true]
  by_cases d1 : 40 < E
  · rw [if_pos (show (40 : Int32) < nI E from (nI_ltI (a := 40) (b := E) (by decide) (by omega)).mpr d1)]
    exact Or.inl rfl
  rw [if_neg (show ¬ (40 : Int32) < nI E from fun z => d1 ((nI_ltI (a := 40) (b := E) (by decide) (by omega)).mp z)), show ixB (20 : Int32) 22 = true from rfl, show (20 : Int32).toNatClampNeg = 20 from rfl, g5, eD, cond_true]
  by_cases d2 : D ≤ 200
  · rw [if_pos (show nI D ≤ (200 : Int32) from (nI_leI (a := D) (b := 200) (by omega) (by decide)).mpr d2)]
    refine Or.inr ?_
    have hE' : tn (a 0 35) ≤ 40 := by rw [eE, tnI (by omega)]; omega
    have hD' : tn (a 0 44) ≤ 200 := by rw [eD, tnI (by omega)]; exact d2
    have gR := tu_233 (L := L) (xs := xs) (k136 := k136) (i := i) (x17 := w6) (x18 := w7) (x19 := w8) hw hN hJ h hE' hD'
    rw [show ixB (4 : Int32) 22 = true from rfl, show (4 : Int32).toNatClampNeg = 4 from rfl, show b 1 4 = nI P0 from r4.trans p0, cond_true]
    by_cases d3 : 19 < P0
    · rw [if_pos (show (19 : Int32) < nI P0 from (nI_ltI (a := 19) (b := P0) (by decide) (by omega)).mpr d3)]
      exact gR
    rw [if_neg (show ¬ (19 : Int32) < nI P0 from fun z => d3 ((nI_ltI (a := 19) (b := P0) (by decide) (by omega)).mp z)), show ixB (5 : Int32) 22 = true from rfl, show (5 : Int32).toNatClampNeg = 5 from rfl, show b 1 5 = nI P1 from r5.trans p1, cond_true]
    by_cases d4 : 19 < P1
    · rw [if_pos (show (19 : Int32) < nI P1 from (nI_ltI (a := 19) (b := P1) (by decide) (by omega)).mpr d4)]
      exact gR
    rw [if_neg (show ¬ (19 : Int32) < nI P1 from fun z => d4 ((nI_ltI (a := 19) (b := P1) (by decide) (by omega)).mp z)), show ixB (16 : Int32) 22 = true from rfl, show (16 : Int32).toNatClampNeg = 16 from rfl, show b 1 16 = nI c0 from r16.trans k0, cond_true]
    by_cases d5 : 90 < c0
    · rw [if_pos (show (90 : Int32) < nI c0 from (nI_ltI (a := 90) (b := c0) (by decide) (by omega)).mpr d5)]
      exact gR
    rw [if_neg (show ¬ (90 : Int32) < nI c0 from fun z => d5 ((nI_ltI (a := 90) (b := c0) (by decide) (by omega)).mp z)), show ixB (17 : Int32) 22 = true from rfl, show (17 : Int32).toNatClampNeg = 17 from rfl, show b 1 17 = nI c1 from r17.trans k1, cond_true]
    by_cases d6 : c1 ≤ 90
    · rw [if_pos (show nI c1 ≤ (90 : Int32) from (nI_leI (a := c1) (b := 90) (by omega) (by decide)).mpr d6)]
      refine tu_le (tu_279 hw (by omega) hJ h ⟨fun t ht => ?_, fun t ht => ?_, hE', hD'⟩) (by omega) (Nat.le_refl _)
      · rcases (show t = 0 ∨ t = 1 by omega) with rfl | rfl
        · rw [p0, tnI (by omega)]; omega
        · rw [p1, tnI (by omega)]; omega
      · rcases (show t = 0 ∨ t = 1 by omega) with rfl | rfl
        · rw [k0, tnI (by omega)]; omega
        · rw [k1, tnI (by omega)]; omega
    · rw [if_neg (show ¬ nI c1 ≤ (90 : Int32) from fun z => d6 ((nI_leI (a := c1) (b := 90) (by omega) (by decide)).mp z))]
      exact gR
  · rw [if_neg (show ¬ nI D ≤ (200 : Int32) from fun z => d2 ((nI_leI (a := D) (b := 200) (by omega) (by decide)).mp z))]
    exact Or.inl rfl
