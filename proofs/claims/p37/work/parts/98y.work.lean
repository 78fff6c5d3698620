/-! The house works off, the trader learns. -/
theorem cntN_imp {p p' : Nat → Bool} : ∀ n, (∀ i, i < n → p' i = true → p i = true) → cntN p' n ≤ cntN p n
  | 0, _ => Nat.le_refl _
  | n + 1, h => by
    have := cntN_imp n (fun i hi => h i (by omega))
    have e := h n (by omega)
    show cntN p' n + (if p' n = true then 1 else 0) ≤ cntN p n + (if p n = true then 1 else 0)
    by_cases c : p' n = true
    · rw [if_pos c, if_pos (e c)]; omega
    · rw [if_neg c]; omega
theorem gRep_r (a : AS) (sort : Int32) (o : Nat) (x y : Int32) (k : Nat) (h : k ≠ 4) (h1 : k < 11 ∨ 17 < k) (h2 : k ≠ 21) (h3 : k ≠ 20) (h4 : k ≠ 9) : gRep a sort o x y k = a k := gSends_r _ _ _ _ _ _ _ k h h1 h2 h3 h4
/-- a report, then routing -/
theorem SI_repRoutes {n : Nat → Nat} {fl rem l0 l1 o d : Nat} {b : AS} {sort x y : Int32} (hn : sm8 n ≤ 512) (hO : n 4 ≤ 40) (hd : d < 2) (h1 : o < tn (b 0 22)) (h2 : b 24 (40 + o) ≠ nI 0) (h3 : b 23 o = nI d) (h : SI n fl rem l0 (l1 + 5) b) : SI n fl rem l0 l1 (gRoutes (gRep b sort o x y) o) := by
  have hr : ∀ k, k ≠ 4 → (k < 11 ∨ 17 < k) → k ≠ 21 → k ≠ 20 → k ≠ 9 → gRep b sort o x y k = b k := gRep_r b sort o x y
  obtain ⟨g1, g2⟩ := SI_rep (sort := sort) (o := o) (x := x) (y := y) hn hO (SI_less (Nat.le_refl _) (show l1 + (if laN b = 0 then 5 else 4) ≤ l1 + 5 by split <;> omega) h)
  have := SI_routes (o := o) (d := d) hn hO hd (by rw [hr 0 (by decide) (by decide) (by decide) (by decide) (by decide)]; exact h1) (by rw [hr 24 (by decide) (by decide) (by decide) (by decide) (by decide)]; exact h2) (by rw [hr 23 (by decide) (by decide) (by decide) (by decide) (by decide)]; exact h3) (SI_less (Nat.le_refl _) (show l1 + (if laN (gRep b sort o x y) = 0 then 1 else 0) ≤ l1 by rw [g2]; exact Nat.le_refl _) g1)
  exact SI_less (Nat.le_refl _) (Nat.le_add_right _ _) this
theorem sub_self3 (x y z : Int32) : x - y - (z + (x - y - z)) = 0 := by
  refine Eq.trans ?_ (Int32.sub_self x)
  rw [← Int32.toBitVec_inj]
  simp only [Int32.toBitVec_sub, Int32.toBitVec_add]
  bv_omega
theorem SI_work {n : Nat → Nat} {fl rem l0 l1 q d : Nat} {a : AS} (hn : sm8 n ≤ 512) (hO : n 4 ≤ 40) (hd : d < 2) (h22 : tn (a 14 q) < tn (a 0 22)) (h23 : a 23 (tn (a 14 q)) = nI d) (hl : a 24 (40 + tn (a 14 q)) ≠ nI 0 → ¬ lft a (40 + tn (a 14 q)) < nI 0) (h : SI n fl rem l0 (l1 + 5) a) : SI n fl rem l0 l1 (gWork a q) := by
  have hrep : ∀ sort o x y, SI n fl rem l0 l1 (gRep a sort o x y) := fun sort o x y => (SI_rep hn hO (SI_less (Nat.le_refl _) (by split <;> omega) h)).1
  unfold gWork
  generalize tn (a 14 q) = o at *
  by_cases c5 : a 11 q = nI 5
  · rw [if_pos c5]
    by_cases c0 : a 24 (40 + o) = nI 0
    · rw [if_pos c0]
      refine SI_repRoutes hn hO hd ?_ ?_ ?_ (SI_mk (l1 := l1 + 5) (fun k hk => by unfold gBehind; simp (disch := omega) only [up2, up1_n]) ?_ ?_ ?_ h)
      · unfold gBehind
        simp (disch := omega) only [up2_n]
        exact h22
      · unfold gBehind
        simp (disch := omega) only [up2_n, up2_s]
        decide
      · unfold gBehind
        simp (disch := omega) only [up2_n]
        exact h23
      · unfold gBehind
        simp (disch := omega) only [up2_n]
      · unfold gBehind
        simp (disch := omega) only [up2_n]
      · generalize hb : gBehind (up2 (up2 (up2 a 24 (40 + o) (nI 1)) 25 (40 + o) (a 16 q)) 26 (40 + o) (a 17 q)) o = b
        have e1 : posN b = posN a := by rw [← hb]; rfl
        have e22 : b 0 22 = a 0 22 := by rw [← hb]; unfold gBehind; simp (disch := omega) only [up2_n]
        have e2 : unfN b ≤ unfN a := by
          unfold unfN
          rw [e22]
          refine (cntN_two (p := isU a) (p' := isU b) (x := o) (decide_eq_true (Or.inl c0)) _ (fun i _ hi => ?_)).1
          rw [← hb]
          unfold isU gBehind lft
          simp (disch := omega) only [up2_n]
        omega
    · rw [if_neg c0]
      exact SI_less (Nat.le_refl _) (Nat.le_add_right _ _) h
  · rw [if_neg c5]
    by_cases cR : a 24 (40 + o) = nI 0 ∨ lft a (40 + o) = nI 0 ∨ (a 11 q = nI 7 ∧ ¬ a 27 (40 + o) + a 28 (40 + o) < a 16 q)
    · rw [if_pos cR]
      exact hrep _ _ _ _
    · rw [if_neg cR]
      have c0 : a 24 (40 + o) ≠ nI 0 := fun h => cR (Or.inl h)
      have cl : lft a (40 + o) ≠ nI 0 := fun h => cR (Or.inr (Or.inl h))
      have hpos : ¬ lft a (40 + o) ≤ nI 0 := fun hle => by
        have := hl c0
        rw [Int32.lt_iff_toInt_lt] at this
        rw [Int32.le_iff_toInt_le] at hle
        exact cl (Int32.toInt_inj.mp (by omega))
      by_cases c6 : a 11 q = nI 6
      · rw [if_pos c6]
        refine (SI_rep hn hO (SI_less (Nat.le_refl _) (show _ ≤ l1 + 5 by split <;> omega) (SI_mk (l1 := l1 + 5) (fun k hk => by simp (disch := omega) only [up2, up1_n]) ?_ ?_ ?_ h))).1
        · simp (disch := omega) only [up2_n]
        · simp (disch := omega) only [up2_n]
        · generalize hb : up2 a 28 (40 + o) (a 28 (40 + o) + lft a (40 + o)) = b
          have e1 : posN b = posN a := by rw [← hb]; rfl
          have e22 : b 0 22 = a 0 22 := by rw [← hb]; simp (disch := omega) only [up2_n]
          have e2 : unfN b ≤ unfN a := by
            unfold unfN
            rw [e22]
            refine (cntN_two (p := isU a) (p' := isU b) (x := o) (decide_eq_true (Or.inr hpos)) _ (fun i _ hi => ?_)).1
            rw [← hb]
            unfold isU lft
            simp (disch := omega) only [up2_n]
          omega
      · rw [if_neg c6]
        refine SI_repRoutes hn hO hd ?_ ?_ ?_ (SI_mk (l1 := l1 + 5) (fun k hk => by unfold gBehind; simp (disch := omega) only [up2, up1_n]) ?_ ?_ ?_ h)
        · unfold gBehind
          simp (disch := omega) only [up2_n]
          exact h22
        · unfold gBehind
          simp (disch := omega) only [up2_n]
          exact c0
        · unfold gBehind
          simp (disch := omega) only [up2_n]
          exact h23
        · unfold gBehind
          simp (disch := omega) only [up2_n]
        · unfold gBehind
          simp (disch := omega) only [up2_n]
        · generalize hb : gBehind (up2 (up2 a 25 (40 + o) (a 15 q)) 26 (40 + o) (a 16 q)) o = b
          have e1 : posN b = posN a := by rw [← hb]; rfl
          have e22 : b 0 22 = a 0 22 := by rw [← hb]; unfold gBehind; simp (disch := omega) only [up2_n]
          have e2 : unfN b ≤ unfN a := by
            unfold unfN
            rw [e22]
            refine (cntN_two (p := isU a) (p' := isU b) (x := o) (decide_eq_true (Or.inr hpos)) _ (fun i _ hi => ?_)).1
            rw [← hb]
            unfold isU gBehind lft
            simp (disch := omega) only [up2_n]
          omega
/-- what the trader's book alone touches -/
def mkT (a b : AS) : Prop := (∀ k, k < 24 ∨ 43 < k → b k = a k) ∧ (∀ k i, 40 ≤ i → k = 24 ∨ k = 26 ∨ k = 27 ∨ k = 28 → b k i = a k i) ∧ b 34 = a 34
theorem mkT_refl (a : AS) : mkT a a := ⟨fun _ _ => rfl, fun _ _ _ _ => rfl, rfl⟩
theorem mkT_trans {a b c : AS} (h : mkT a b) (h2 : mkT b c) : mkT a c := ⟨fun k hk => (h2.1 k hk).trans (h.1 k hk), fun k i hi hk => (h2.2.1 k i hi hk).trans (h.2.1 k i hi hk), h2.2.2.trans h.2.2⟩
theorem mkT_up {a : AS} {k o : Nat} {v : Int32} (hk : 24 ≤ k ∧ k ≤ 43 ∧ k ≠ 34) (ho : o < 40 ∨ ¬ (k = 24 ∨ k = 26 ∨ k = 27 ∨ k = 28)) : mkT a (up2 a k o v) :=
  ⟨fun q hq => by simp (disch := omega) only [up2, up1_n], fun q i hi hq => up2_n _ _ (by omega), by simp (disch := omega) only [up2, up1_n]⟩
theorem mkT_knows {o : Nat} (ho : o < 40) : ∀ (d e : Nat) (a : AS), mkT a (gKnows o d e a) := by
  intro d
  induction d with
  | zero => exact fun e a => mkT_refl a
  | succ d ih =>
    intro e a
    refine mkT_trans ?_ (ih (e + 1) (gKnow1 a o e))
    unfold gKnow1
    exact mkT_trans (mkT_trans (mkT_up ⟨by decide, by decide, by decide⟩ (Or.inr (by decide))) (mkT_up ⟨by decide, by decide, by decide⟩ (Or.inr (by decide)))) (mkT_up ⟨by decide, by decide, by decide⟩ (Or.inl ho))
theorem mkT_learns {a : AS} {q : Nat} (ho : tn (a 14 q) < 40 ∧ tn (a 15 q) < 40) : mkT a (gLearns a q) := by
  unfold gLearns gEndReq
  refine mkT_trans ?_ (mkT_up ⟨by decide, by decide, by decide⟩ (Or.inr (by decide)))
  unfold gLrn
  have h1 := ho.2
  split
  · exact mkT_up ⟨by decide, by decide, by decide⟩ (Or.inl h1)
  · split
    · exact mkT_knows h1 _ _ _
    · split
      · exact mkT_up ⟨by decide, by decide, by decide⟩ (Or.inl h1)
      · split
        · exact mkT_trans (mkT_up ⟨by decide, by decide, by decide⟩ (Or.inl h1)) (mkT_up ⟨by decide, by decide, by decide⟩ (Or.inl h1))
        · split
          · split
            · exact mkT_refl a
            · exact mkT_trans (mkT_trans (mkT_up ⟨by decide, by decide, by decide⟩ (Or.inr (by decide))) (mkT_up ⟨by decide, by decide, by decide⟩ (Or.inl h1))) (mkT_up ⟨by decide, by decide, by decide⟩ (Or.inl h1))
          · split
            · split
              · exact mkT_refl a
              · exact mkT_up ⟨by decide, by decide, by decide⟩ (Or.inr (by decide))
            · exact mkT_refl a
theorem SI_mkT {n : Nat → Nat} {fl rem l0 l1 : Nat} {a b : AS} (hm : mkT a b) (h : SI n fl rem l0 l1 a) : SI n fl rem l0 l1 b := by
  obtain ⟨m1, m2, m3⟩ := hm
  refine SI_mk (fun k hk => m1 k (by omega)) (by rw [m1 0 (by omega)]) (by rw [m1 0 (by omega)]) ?_ h
  have e1 : posN b = posN a := by unfold posN isP; rw [m3]
  have e2 : unfN b = unfN a := by
    unfold unfN
    rw [m1 0 (by omega)]
    refine cntN_congr _ (fun i _ => ?_)
    unfold isU lft
    rw [m2 24 _ (by omega) (by omega), m2 26 _ (by omega) (by omega), m2 27 _ (by omega) (by omega), m2 28 _ (by omega) (by omega)]
  rw [e1, e2]
  exact Nat.le_refl _
