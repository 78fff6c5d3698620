/-! Routing: each execution fills the order or empties a quote. -/
theorem gBest1_pos {a : AS} {d o p v : Nat} (hp : p = 0 ∨ ¬ a 34 (2 * (p - 1) + d) ≤ nI 0) : gBest1 a d o p v = 0 ∨ ¬ a 34 (2 * (gBest1 a d o p v - 1) + d) ≤ nI 0 := by
  unfold gBest1
  split
  · rename_i h
    exact Or.inr h.1
  · exact hp
theorem gBest_pos {a : AS} {o : Nat} : gBest a o = 0 ∨ ¬ a 34 (2 * (gBest a o - 1) + tn (a 23 o)) ≤ nI 0 :=
  gBest1_pos (gBest1_pos (gBest1_pos (Or.inl rfl)))
theorem cntN_two {p p' : Nat → Bool} {x : Nat} (hx : p x = true) : ∀ n, (∀ i, i < n → i ≠ x → p' i = p i) → cntN p' n ≤ cntN p n ∧ (p' x = false → x < n → cntN p' n + 1 ≤ cntN p n)
  | 0, _ => ⟨Nat.le_refl _, fun _ h => by omega⟩
  | n + 1, h => by
    have e1 : cntN p' (n + 1) = cntN p' n + (if p' n = true then 1 else 0) := rfl
    have e2 : cntN p (n + 1) = cntN p n + (if p n = true then 1 else 0) := rfl
    by_cases c : n = x
    · have e := cntN_congr (p := p) (p' := p') n (fun i hi => h i (by omega) (by omega))
      rw [e1, e2, e, c, if_pos hx]
      refine ⟨by split <;> omega, fun hf _ => ?_⟩
      rw [hf]
      simp only [Bool.false_eq_true, if_false]
      omega
    · obtain ⟨i1, i2⟩ := cntN_two (p := p) (p' := p') hx n (fun i hi => h i (by omega))
      rw [e1, e2, h n (by omega) c]
      exact ⟨by omega, fun hf hn => by have := i2 hf (by omega); omega⟩
theorem gTrd_r (a : AS) (o q : Nat) (its : Int32) (k : Nat) (h : k < 27 ∨ 42 < k) (h0 : k ≠ 0) : gTrade a o q its k = a k := by
  unfold gTrade
  simp (disch := omega) only [up2, up1_n]
theorem gTrd_0 (a : AS) (o q : Nat) (its : Int32) (i : Nat) (h : i ≠ 35) : gTrade a o q its 0 i = a 0 i := by
  unfold gTrade
  simp (disch := omega) only [up2_n]
theorem add_sub3 (x y z : Int32) : x - (y + (x - y - z)) - z = 0 := by
  refine Eq.trans ?_ (Int32.sub_self x)
  rw [← Int32.toBitVec_inj]
  simp only [Int32.toBitVec_sub, Int32.toBitVec_add]
  bv_omega
/-- one execution -/
theorem trade_dn {a : AS} {o q : Nat} (hq : q < 6) (ho : o < tn (a 0 22)) (h24 : a 24 (40 + o) ≠ nI 0) (hp : ¬ a 34 q ≤ nI 0) (hl : ¬ lft a (40 + o) ≤ nI 0) : unfN (gTrade a o q (itsOf a o q)) + posN (gTrade a o q (itsOf a o q)) + 1 ≤ unfN a + posN a := by
  generalize hits : itsOf a o q = its
  have e22 : gTrade a o q its 0 22 = a 0 22 := gTrd_0 _ _ _ _ _ (by decide)
  have e24 : gTrade a o q its 24 = a 24 := gTrd_r _ _ _ _ _ (by decide) (by decide)
  have e26 : gTrade a o q its 26 = a 26 := gTrd_r _ _ _ _ _ (by decide) (by decide)
  have e27 : ∀ i, gTrade a o q its 27 i = if i = 40 + o then a 27 (40 + o) + its else a 27 i := fun i => by
    unfold gTrade
    by_cases c : i = 40 + o
    · rw [if_pos c, c, up2_n _ _ (by omega), up2_s]
    · rw [if_neg c]
      simp (disch := omega) only [up2_n]
  have e28 : gTrade a o q its 28 = a 28 := by
    unfold gTrade
    simp (disch := omega) only [up2, up1_n]
  have e34 : ∀ i, gTrade a o q its 34 i = if i = q then a 34 q - its else a 34 i := fun i => by
    unfold gTrade
    by_cases c : i = q
    · rw [if_pos c, c, up2_s]
    · rw [if_neg c]
      simp (disch := omega) only [up2_n]
  have hlo : ∀ i, i ≠ o → lft (gTrade a o q its) (40 + i) = lft a (40 + i) := fun i hi => by
    unfold lft
    rw [e26, e27, e28, if_neg (by omega)]
  have u := cntN_two (p := isU a) (p' := isU (gTrade a o q its)) (x := o) (decide_eq_true (Or.inr hl)) (tn (a 0 22)) (fun i _ hi => by
    unfold isU
    rw [hlo i hi, e24])
  have p := cntN_two (p := isP a) (p' := isP (gTrade a o q its)) (x := q) (decide_eq_true hp) 6 (fun i _ hi => by
    unfold isP
    rw [e34, if_neg hi])
  unfold unfN posN
  rw [e22]
  by_cases c : a 34 q ≤ lft a (40 + o)
  · have ei : its = a 34 q := by rw [← hits]; unfold itsOf; rw [if_pos c]
    have := p.2 (decide_eq_false (fun h => h (by rw [e34, if_pos rfl, ei, show a 34 q - a 34 q = nI 0 from Int32.sub_self _]; decide))) hq
    have := u.1
    omega
  · have ei : its = lft a (40 + o) := by rw [← hits]; unfold itsOf; rw [if_neg c]
    have hz : lft (gTrade a o q its) (40 + o) = nI 0 := by
      unfold lft at ei ⊢
      rw [e26, e27, e28, if_pos rfl, ei]
      exact add_sub3 _ _ _
    have := u.2 (decide_eq_false (fun h => h.elim (fun h => h24 (by rw [e24] at h; exact h)) (fun h => h (by rw [hz]; decide)))) ho
    have := p.1
    omega
/-- what routing leaves alone -/
def mkOnly (a b : AS) : Prop := (∀ k, k < 27 ∨ 42 < k → k ≠ 0 → b k = a k) ∧ ∀ i, i ≠ 35 → b 0 i = a 0 i
theorem mkOnly_refl (a : AS) : mkOnly a a := ⟨fun _ _ _ => rfl, fun _ _ => rfl⟩
theorem route_dn {o d : Nat} (hd : d < 2) : ∀ (k : Nat) (a : AS), o < tn (a 0 22) → a 24 (40 + o) ≠ nI 0 → a 23 o = nI d → mkOnly a (gRouteL o k a) ∧ tn (a 0 35) ≤ tn (gRouteL o k a 0 35) ∧ 4 * (unfN (gRouteL o k a) + posN (gRouteL o k a)) + (if tn (gRouteL o k a 0 35) ≤ tn (a 0 35) then 0 else 4) ≤ 4 * (unfN a + posN a) := by
  intro k
  induction k with
  | zero =>
    intro a h1 h2 h3
    refine ⟨mkOnly_refl a, Nat.le_refl _, ?_⟩
    show 4 * (unfN a + posN a) + (if tn (a 0 35) ≤ tn (a 0 35) then 0 else 4) ≤ _
    rw [if_pos (Nat.le_refl _)]
    exact Nat.le_refl _
  | succ k ih =>
    intro a h1 h2 h3
    have e : gRouteL o (k + 1) a = if gBest a o = 0 ∨ lft a (40 + o) ≤ nI 0 ∨ 100 ≤ tn (a 0 35) then a else gRouteL o k (gTrade a o (2 * (gBest a o - 1) + tn (a 23 o)) (itsOf a o (2 * (gBest a o - 1) + tn (a 23 o)))) := rfl
    rw [e]
    by_cases c : gBest a o = 0 ∨ lft a (40 + o) ≤ nI 0 ∨ 100 ≤ tn (a 0 35)
    · rw [if_pos c]
      refine ⟨mkOnly_refl a, Nat.le_refl _, ?_⟩
      rw [if_pos (Nat.le_refl _)]
      exact Nat.le_refl _
    · rw [if_neg c]
      have c1 : gBest a o ≠ 0 := fun h => c (Or.inl h)
      have c2 : ¬ lft a (40 + o) ≤ nI 0 := fun h => c (Or.inr (Or.inl h))
      have c3 : tn (a 0 35) < 100 := Nat.lt_of_not_le (fun h => c (Or.inr (Or.inr h)))
      have hpos := (gBest_pos (a := a) (o := o)).resolve_left c1
      have hle := gBest_le a o
      have hd' : tn (a 23 o) = d := by rw [h3, tnI (by omega)]
      have hq : 2 * (gBest a o - 1) + tn (a 23 o) < 6 := by omega
      have ht := trade_dn hq h1 h2 hpos c2
      generalize 2 * (gBest a o - 1) + tn (a 23 o) = q at *
      generalize itsOf a o q = its at *
      have e35 : tn (gTrade a o q its 0 35) = tn (a 0 35) + 1 := by
        have : gTrade a o q its 0 35 = nI (tn (a 0 35) + 1) := by
          unfold gTrade
          rw [up2_n _ _ (by omega), up2_n _ _ (by omega), up2_s]
        rw [this, tnI (by omega)]
      have r : ∀ k, k < 27 ∨ 42 < k → k ≠ 0 → gTrade a o q its k = a k := fun k => gTrd_r a o q its k
      have r0 : ∀ i, i ≠ 35 → gTrade a o q its 0 i = a 0 i := fun i => gTrd_0 a o q its i
      obtain ⟨⟨i1, i1'⟩, i2, i3⟩ := ih (gTrade a o q its) (by rw [r0 22 (by decide)]; exact h1) (by rw [r 24 (by decide) (by decide)]; exact h2) (by rw [r 23 (by decide) (by decide)]; exact h3)
      refine ⟨⟨fun k hk h0 => (i1 k hk h0).trans (r k hk h0), fun i hi => (i1' i hi).trans (r0 i hi)⟩, by omega, ?_⟩
      rw [if_neg (by omega)]
      split at i3 <;> omega
/-- routing, with its report -/
theorem SI_routes {n : Nat → Nat} {fl rem l0 l1 o d : Nat} {a : AS} (hn : sm8 n ≤ 512) (hO : n 4 ≤ 40) (hd : d < 2) (h1 : o < tn (a 0 22)) (h2 : a 24 (40 + o) ≠ nI 0) (h3 : a 23 o = nI d) (h : SI n fl rem l0 (l1 + if laN a = 0 then 1 else 0) a) : SI n fl rem l0 (l1 + if laN (gRoutes a o) = 0 then 1 else 0) (gRoutes a o) := by
  obtain ⟨⟨m1, m2⟩, g1, g2⟩ := route_dn hd 102 a h1 h2 h3
  generalize hb : gRouteL o 102 a = b at *
  have hla : laN b = laN a := by
    unfold laN lgN kF
    rw [m1 4 (by omega) (by omega), m1 11 (by omega) (by omega)]
  have hs : ∀ x, 4 * (unfN b + posN b) + x ≤ 4 * (unfN a + posN a) + (l1 + if laN a = 0 then 1 else 0) → SI n fl rem l0 x b := fun x hx => SI_mk (fun k hk => m1 k (by omega) (by omega)) (m2 1 (by decide)) (m2 2 (by decide)) hx h
  unfold gRoutes
  rw [hb]
  by_cases c : tn (b 0 35) ≤ tn (a 0 35)
  · rw [if_pos c] at g2 ⊢
    rw [hla]
    exact hs _ (by omega)
  · rw [if_neg c] at g2 ⊢
    have h5 := hs (l1 + if laN b = 0 then 5 else 4) (by
      rw [hla]
      by_cases c2 : laN a = 0
      · rw [if_pos c2, if_pos c2]; omega
      · rw [if_neg c2, if_neg c2]; omega)
    obtain ⟨q1, q2⟩ := SI_rep (sort := nI 1) (o := o) (x := nI (tn (a 0 35))) (y := nI (tn (b 0 35) - tn (a 0 35))) hn hO h5
    rw [q2, if_neg (by decide)]
    exact q1
