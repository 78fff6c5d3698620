/-! What the trader learns, in what is kept. -/
theorem add_r3 (x y z : Int32) : x + y + z = x + z + y := by
  rw [← Int32.toBitVec_inj]
  simp only [Int32.toBitVec_add]
  bv_omega
theorem add_sub_r (x y : Int32) : x + y - y = x := by
  rw [← Int32.toBitVec_inj]
  simp only [Int32.toBitVec_sub, Int32.toBitVec_add]
  bv_omega
/-- one more is counted -/
theorem lsum_add {a b : AS} {s o e : Nat} : ∀ E : Nat, e < E → (∀ x, x < E → x ≠ e → b 36 x = a 36 x ∧ b 39 x = a 39 x ∧ b 42 (100 * s + x) = a 42 (100 * s + x) ∧ b 43 (100 * s + x) = a 43 (100 * s + x)) → ¬ cntO a s o e → cntO b s o e → lsum b s o E = lsum a s o E + b 39 e
  | 0, h, _, _, _ => by omega
  | E + 1, h, hx, h1, h2 => by
    by_cases c : e = E
    · subst c
      rw [lsum_pos h2, lsum_neg h1, lsum_c e (fun x hx' => hx x (by omega) (by omega))]
    · have ih := lsum_add E (by omega) (fun x hx' hne => hx x (by omega) hne) h1 h2
      obtain ⟨w1, w2, w3, w4⟩ := hx E (by omega) (fun h => c h.symm)
      have hc : cntO b s o E ↔ cntO a s o E := cntO_c ⟨w1, w3, w4⟩
      by_cases cc : cntO a s o E
      · rw [lsum_pos cc, lsum_pos (hc.mpr cc), ih, w2, add_r3]
      · rw [lsum_neg cc, lsum_neg (fun h => cc (hc.mp h)), ih]
theorem lsum_ne {a b : AS} {s o e : Nat} : ∀ E : Nat, (∀ x, x < E → x ≠ e → b 36 x = a 36 x ∧ b 39 x = a 39 x ∧ b 42 (100 * s + x) = a 42 (100 * s + x) ∧ b 43 (100 * s + x) = a 43 (100 * s + x)) → ¬ cntO a s o e → ¬ cntO b s o e → lsum b s o E = lsum a s o E
  | 0, _, _, _ => rfl
  | E + 1, hx, h1, h2 => by
    have ih := lsum_ne E (fun x hx' hne => hx x (by omega) hne) h1 h2
    by_cases c : e = E
    · subst c
      rw [lsum_neg h2, lsum_neg h1, ih]
    · obtain ⟨w1, w2, w3, w4⟩ := hx E (by omega) (fun h => c h.symm)
      have hc : cntO b s o E ↔ cntO a s o E := cntO_c ⟨w1, w3, w4⟩
      by_cases cc : cntO a s o E
      · rw [lsum_pos cc, lsum_pos (hc.mpr cc), ih, w2]
      · rw [lsum_neg cc, lsum_neg (fun h => cc (hc.mp h)), ih]
/-- one more is known -/
theorem MI_know1 {K O E R o x : Nat} {a : AS} (ho : o < O) (hx : x < E) (h36 : a 36 x = nI o) (h42 : a 42 x = nI 0) (hp : ∀ n f t : Nat, tn (a 5 0) ≤ n → n ≤ tn (a 4 1) → isF a (8192 * 1 + n) f t → ¬ (f ≤ x ∧ x < f + t)) (h : MI K O E R a) : MI K O E R (gKnow1 a o x) := by
  obtain ⟨g1, g2, g3, g4, g5, g6, g7, g8, g9, g10, g11, g12⟩ := h
  obtain ⟨y1, y2, y3, y4, y5⟩ := id g1
  have eO : tn (a 0 22) = O := by rw [y1, tnI (by omega)]
  have F : ∀ k i : Nat, ¬ (k = 27 ∧ i = o) → ¬ (k = 41 ∧ i = x) → ¬ (k = 42 ∧ i = x) → gKnow1 a o x k i = a k i := fun k i w1 w2 w3 => by
    unfold gKnow1
    rw [up2_n _ _ w1, up2_n _ _ w2, up2_n _ _ w3]
  have n27 : gKnow1 a o x 27 o = a 27 o + a 39 x := by
    unfold gKnow1
    rw [up2_s]
  have n42 : gKnow1 a o x 42 x = nI 1 := by
    unfold gKnow1
    rw [up2_n _ _ (by omega), up2_n _ _ (by omega), up2_s]
  have hm : mrow a (gKnow1 a o x) := ⟨fun s _ => F _ _ (by omega) (by omega) (by omega), fun k i hk => F _ _ (by omega) (by omega) (by omega)⟩
  have e43 : a 43 x = nI 0 := (g5 x hx).2.2.2.2.2.1 h42
  refine ⟨⟨(F _ _ (by omega) (by omega) (by omega)).trans y1, y2, (F _ _ (by omega) (by omega) (by omega)).trans y3, y4, (F _ _ (by omega) (by omega) (by omega)).trans y5⟩, mb2_c (fun o' _ => ⟨F _ _ (by omega) (by omega) (by omega), F _ _ (by omega) (by omega) (by omega), F _ _ (by omega) (by omega) (by omega), F _ _ (by omega) (by omega) (by omega)⟩) (fun e _ => ⟨F _ _ (by omega) (by omega) (by omega), F _ _ (by omega) (by omega) (by omega), F _ _ (by omega) (by omega) (by omega)⟩) g2, fun o' ho' => ?_, mb4_c (fun o' _ => ⟨F _ _ (by omega) (by omega) (by omega), F _ _ (by omega) (by omega) (by omega), F _ _ (by omega) (by omega) (by omega)⟩) y2 g4, fun e he => ?_, mb6_c (fun e h1 h2 => ⟨F _ _ (by omega) (by omega) (by omega), F _ _ (by omega) (by omega) (by omega), F _ _ (by omega) (by omega) (by omega), F _ _ (by omega) (by omega) (by omega), F _ _ (by omega) (by omega) (by omega), F _ _ (by omega) (by omega) (by omega), F _ _ (by omega) (by omega) (by omega)⟩) g6, mb7_c (fun q _ => ⟨F _ _ (by omega) (by omega) (by omega), F _ _ (by omega) (by omega) (by omega)⟩) g7, frO_c (F _ _ (by omega) (by omega) (by omega)) (fun o' h1 h2 => ?_) g8, mm1_c (Nat.le_refl _) (Nat.le_refl _) hm (fun e _ => ⟨F _ _ (by omega) (by omega) (by omega), fun c => by rw [F _ _ (by omega) (by omega) (by omega)]; exact c⟩) g9, ⟨fun n f t e h1 hn' hF w1 w2 => ?_, fun n e h1 hn' hB => ?_⟩, mm3_c hm g11, mm4_c hm (by rw [F 5 1 (by omega) (by omega) (by omega)]; exact Nat.le_refl _) g12⟩
  · have hx' : ∀ e, e < E → e ≠ x → gKnow1 a o x 36 e = a 36 e ∧ gKnow1 a o x 39 e = a 39 e ∧ gKnow1 a o x 42 (100 * 0 + e) = a 42 (100 * 0 + e) ∧ gKnow1 a o x 43 (100 * 0 + e) = a 43 (100 * 0 + e) := fun e _ hne => ⟨F _ _ (by omega) (by omega) (by omega), F _ _ (by omega) (by omega) (by omega), F _ _ (by omega) (by omega) (by omega), F _ _ (by omega) (by omega) (by omega)⟩
    have n36 : gKnow1 a o x 36 x = a 36 x := F _ _ (by omega) (by omega) (by omega)
    have n39 : gKnow1 a o x 39 x = a 39 x := F _ _ (by omega) (by omega) (by omega)
    have n43 : gKnow1 a o x 43 x = a 43 x := F _ _ (by omega) (by omega) (by omega)
    have ha : ¬ cntO a 0 o' x := fun c => c.2.1 (by rw [show 100 * 0 + x = x by omega]; exact h42)
    by_cases c : o' = o
    · subst c
      have hb : cntO (gKnow1 a o' x) 0 o' x := by
        unfold cntO
        rw [show 100 * 0 + x = x by omega, n36, n42, n43]
        exact ⟨h36, by decide, e43⟩
      rw [lsum_add E hx hx' ha hb, n39, n27, g3 o' ho']
    · have hb : ¬ cntO (gKnow1 a o x) 0 o' x := fun hh => c ((nI_eq (by omega) (by omega)).mp ((hh.1.symm.trans n36).trans h36))
      rw [F 27 o' (by omega) (by omega) (by omega), ← g3 o' ho']
      exact lsum_ne E hx' ha hb
  · by_cases c : e = x
    · subst c
      obtain ⟨⟨o1, q1, q2, q3⟩, ⟨v, v1, v2⟩, ⟨z, z1, z2⟩, ⟨p, p1, p2⟩, t1, t2, t3⟩ := g5 e he
      refine ⟨⟨o1, q1, (F _ _ (by omega) (by omega) (by omega)).trans q2, by rw [F _ _ (by omega) (by omega) (by omega)]; exact q3⟩, ⟨v, v1, (F _ _ (by omega) (by omega) (by omega)).trans v2⟩, ⟨z, z1, (F _ _ (by omega) (by omega) (by omega)).trans z2⟩, ⟨p, p1, (F _ _ (by omega) (by omega) (by omega)).trans p2⟩, by rw [F _ _ (by omega) (by omega) (by omega)]; exact t1, fun c => ?_, by rw [F _ _ (by omega) (by omega) (by omega), F _ _ (by omega) (by omega) (by omega)]; exact t3⟩
      rw [n42] at c
      exact absurd c (by decide)
    · exact exK_c ⟨F _ _ (by omega) (by omega) (by omega), F _ _ (by omega) (by omega) (by omega), F _ _ (by omega) (by omega) (by omega), F _ _ (by omega) (by omega) (by omega), F _ _ (by omega) (by omega) (by omega), F _ _ (by omega) (by omega) (by omega), F _ _ (by omega) (by omega) (by omega), F _ _ (by omega) (by omega) (by omega)⟩ (fun o _ c => by rw [F _ _ (by omega) (by omega) (by omega)]; exact c) (g5 e he)
  · rw [eO] at h1
    exact ⟨F _ _ (by omega) (by omega) (by omega), F _ _ (by omega) (by omega) (by omega), F _ _ (by omega) (by omega) (by omega), F _ _ (by omega) (by omega) (by omega), F _ _ (by omega) (by omega) (by omega), F _ _ (by omega) (by omega) (by omega), F _ _ (by omega) (by omega) (by omega), F _ _ (by omega) (by omega) (by omega), F _ _ (by omega) (by omega) (by omega), F _ _ (by omega) (by omega) (by omega)⟩
  · rw [F 5 0 (by omega) (by omega) (by omega)] at h1
    rw [hm.1 1 (by decide)] at hn'
    have hF' := isF_c (hm.2 11 _ (by omega)) (hm.2 14 _ (by omega)) (hm.2 16 _ (by omega)) (hm.2 17 _ (by omega)) hF
    have hne : e ≠ x := fun c => hp n f t h1 hn' hF' (by omega)
    rw [F 42 e (by omega) (by omega) (by omega)]
    exact g10.1 n f t e h1 hn' hF' w1 w2
  · rw [F 5 0 (by omega) (by omega) (by omega)] at h1
    rw [hm.1 1 (by decide)] at hn'
    rw [F 43 e (by omega) (by omega) (by omega)]
    exact g10.2 n e h1 hn' (isB_c (hm.2 11 _ (by omega)) (hm.2 14 _ (by omega)) (hm.2 16 _ (by omega)) hB)
theorem gKnow1_r (a : AS) (o x k : Nat) (h : k ≠ 27) (h1 : k ≠ 41) (h2 : k ≠ 42) : gKnow1 a o x k = a k := by
  unfold gKnow1
  rw [up2_k _ _ h, up2_k _ _ h1, up2_k _ _ h2]
theorem MI_knows {K O E R o : Nat} (ho : o < O) : ∀ (d x : Nat) (a : AS), x + d ≤ E → (∀ e, x ≤ e → e < x + d → a 36 e = nI o ∧ a 42 e = nI 0) → (∀ n f t e : Nat, tn (a 5 0) ≤ n → n ≤ tn (a 4 1) → isF a (8192 * 1 + n) f t → x ≤ e → e < x + d → ¬ (f ≤ e ∧ e < f + t)) → MI K O E R a → MI K O E R (gKnows o d x a) := by
  intro d
  induction d with
  | zero => exact fun x a _ _ _ h => h
  | succ d ih =>
    intro x a hx h1 hp h
    refine ih (x + 1) (gKnow1 a o x) (by omega) (fun e q1 q2 => ?_) (fun n f t e w1 w2 hF q1 q2 => ?_) (MI_know1 ho (by omega) (h1 x (by omega) (by omega)).1 (h1 x (by omega) (by omega)).2 (fun n f t w1 w2 hF => hp n f t x w1 w2 hF (by omega) (by omega)) h)
    · rw [gKnow1_r _ _ _ 36 (by decide) (by decide) (by decide)]
      refine ⟨(h1 e (by omega) (by omega)).1, ?_⟩
      unfold gKnow1
      rw [up2_n _ _ (by omega), up2_n _ _ (by omega), up2_n _ _ (by omega)]
      exact (h1 e (by omega) (by omega)).2
    · rw [gKnow1_r _ _ _ 5 (by decide) (by decide) (by decide)] at w1
      rw [gKnow1_r _ _ _ 4 (by decide) (by decide) (by decide)] at w2
      exact hp n f t e w1 w2 (isF_c (by rw [gKnow1_r _ _ _ 11 (by decide) (by decide) (by decide)]) (by rw [gKnow1_r _ _ _ 14 (by decide) (by decide) (by decide)]) (by rw [gKnow1_r _ _ _ 16 (by decide) (by decide) (by decide)]) (by rw [gKnow1_r _ _ _ 17 (by decide) (by decide) (by decide)]) hF) (by omega) (by omega)
