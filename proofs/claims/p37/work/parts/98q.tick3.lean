/-! A tick, whole. -/
theorem wS_c {x : AS} {s : Nat} {p q p' q' : Prop} [Decidable p] [Decidable q] [Decidable p'] [Decidable q'] (h : p ↔ p') (h2 : q ↔ q') : wS x s p q = wS x s p' q' := by
  unfold wS
  simp only [h, h2]
theorem wB_c {x y : AS} {s : Nat} {p p' : Prop} [Decidable p] [Decidable p'] (h : p ↔ p') : (if p then x else y) = if p' then x else y := by
  simp only [h]
/-- what the first watch leaves -/
theorem gTk1_n {a : AS} {T X C : Nat} (hT : a 0 1 = nI T) (hT2 : T < 30000) (h9 : a 9 0 = nI X) (hX : X ≤ T) (h10 : a 10 0 = nI C) (hC : C ≤ T) : (gTk1 a).1 = if a 3 0 = nI 0 then gTk0 a else if 25 ≤ T - C + 1 then gDown (if 10 ≤ T - X + 1 then wB (gTk0 a) 0 else gTk0 a) else wS (gTk0 a) 0 (10 ≤ T - X + 1) (T - C + 1 = 15) := by
  have e3 : gTk0 a 3 = a 3 := rfl
  have e1 : gTk0 a 0 1 = nI (T + 1) := by
    show a 0 1 + 1 = _
    rw [hT]
    exact nI_add T 1
  unfold gTk1
  rw [e3]
  by_cases c : a 3 0 = nI 0
  · rw [if_pos c, if_pos c]
  · rw [if_neg c, if_neg c]
    have := gWt_n (x := gTk0 a) (s := 0) (T := T + 1) (X := X) (C := C) e1 (by omega) h9 (by omega) h10 (by omega)
    rw [this, show T + 1 - C = T - C + 1 by omega, show T + 1 - X = T - X + 1 by omega]
theorem wS_r (x : AS) (s : Nat) (p q : Prop) [Decidable p] [Decidable q] (k : Nat) (h : k ≠ 4) (h1 : k < 11 ∨ 17 < k) (h2 : k ≠ 21) (h3 : k ≠ 20) (h4 : k ≠ 9) : wS x s p q k = x k := by
  unfold wS wB wT
  split
  · rw [gSends_r _ _ _ _ _ _ _ k h h1 h2 h3 h4]
    split
    · rw [gSends_r _ _ _ _ _ _ _ k h h1 h2 h3 h4]
    · rfl
  · split
    · rw [gSends_r _ _ _ _ _ _ _ k h h1 h2 h3 h4]
    · rfl
theorem wS_9 {x : AS} {s : Nat} {p q : Prop} [Decidable p] [Decidable q] (hup : x 0 2 ≠ nI 0) (t : Nat) : wS x s p q 9 t = if t = s ∧ (p ∨ q) then x 0 1 else x 9 t := by
  have e : ∀ y : AS, y 0 = x 0 → ∀ k, gSends y s (nI k) (nI 0) (nI 0) (nI 0) (nI 0) 9 t = if t = s then x 0 1 else y 9 t := fun y hy k => by
    rw [snd_9, hy]
    by_cases c : t = s
    · rw [if_pos ⟨c, hup⟩, if_pos c]
    · rw [if_neg (fun h => c h.1), if_neg c]
  have e0 : (if p then wB x s else x) 0 = x 0 := by
    split
    · exact gSends_r _ _ _ _ _ _ _ 0 (by decide) (by decide) (by decide) (by decide) (by decide)
    · rfl
  unfold wS
  by_cases cq : q
  · rw [if_pos cq]
    unfold wT
    rw [e _ e0]
    by_cases c : t = s
    · rw [if_pos c, if_pos ⟨c, Or.inr cq⟩]
    · rw [if_neg c, if_neg (show ¬ (t = s ∧ (p ∨ q)) from fun h => c h.1)]
      by_cases cp : p
      · rw [if_pos cp]; unfold wB; rw [e x rfl, if_neg c]
      · rw [if_neg cp]
  · rw [if_neg cq]
    by_cases cp : p
    · rw [if_pos cp]
      unfold wB
      rw [e x rfl]
      by_cases c : t = s
      · rw [if_pos c, if_pos ⟨c, Or.inl cp⟩]
      · rw [if_neg c, if_neg (fun h => c h.1)]
    · rw [if_neg cp, if_neg (fun h => h.2.elim cp cq)]
/-- the house's last send, put in before -/
theorem up91_0 {x : AS} {v : Int32} {k : Nat} (hup : x 0 2 ≠ nI 0) : gSends (up2 x 9 1 v) 0 (nI k) (nI 0) (nI 0) (nI 0) (nI 0) = up2 (gSends x 0 (nI k) (nI 0) (nI 0) (nI 0) (nI 0)) 9 1 v := by
  have hk : ∀ k, k ≠ 9 → up2 x 9 1 v k = x k := fun k hk => by simp (disch := omega) only [up2, up1_n]
  funext q i
  by_cases c : q = 9 ∧ i ≠ 0
  · obtain ⟨rfl, ci⟩ := c
    rw [snd_9, if_neg (fun h => ci h.1)]
    by_cases c1 : i = 1
    · subst c1; rw [up2_s, up2_s]
    · rw [up2_n _ _ (by omega), up2_n _ _ (by omega), snd_9, if_neg (fun h => ci h.1)]
  · rw [up2_n _ _ (by omega)]
    exact gSends_9 hk hup q i c
theorem up91_1 {x : AS} {k : Nat} (hup : x 0 2 ≠ nI 0) : gSends (up2 x 9 1 (x 0 1)) 1 (nI k) (nI 0) (nI 0) (nI 0) (nI 0) = gSends x 1 (nI k) (nI 0) (nI 0) (nI 0) (nI 0) := by
  have hk : ∀ k, k ≠ 9 → up2 x 9 1 (x 0 1) k = x k := fun k hk => by simp (disch := omega) only [up2, up1_n]
  funext q i
  by_cases c : q = 9 ∧ i ≠ 1
  · obtain ⟨rfl, ci⟩ := c
    rw [snd_9, snd_9, if_neg (fun h => ci h.1), if_neg (fun h => ci h.1), up2_n _ _ (by omega)]
  · exact gSends_9 hk hup q i c
theorem wS_91_0 {x : AS} {v : Int32} {p q : Prop} [Decidable p] [Decidable q] (hup : x 0 2 ≠ nI 0) : wS (up2 x 9 1 v) 0 p q = up2 (wS x 0 p q) 9 1 v := by
  have e : (if p then wB (up2 x 9 1 v) 0 else up2 x 9 1 v) = up2 (if p then wB x 0 else x) 9 1 v := by
    split
    · exact up91_0 hup
    · rfl
  have hu : (if p then wB x 0 else x) 0 2 ≠ nI 0 := by
    split
    · rw [(w_10 x 0 0).2.2.1]; exact hup
    · exact hup
  unfold wS
  rw [e]
  split
  · exact up91_0 hu
  · rfl
theorem wS_91_1 {x : AS} {p q : Prop} [Decidable p] [Decidable q] (hup : x 0 2 ≠ nI 0) (h : p ∨ q) : wS (up2 x 9 1 (x 0 1)) 1 p q = wS x 1 p q := by
  unfold wS
  by_cases cp : p
  · rw [if_pos cp, if_pos cp]
    have : wB (up2 x 9 1 (x 0 1)) 1 = wB x 1 := up91_1 hup
    rw [this]
  · rw [if_neg cp, if_neg cp, if_pos (h.resolve_left cp), if_pos (h.resolve_left cp)]
    exact up91_1 hup
theorem phN_tk {a : AS} {v : Int32} (e01 : tn (a 0 1 + 1) = tn (a 0 1) + 1) (h1 : tn (a 10 1) ≤ tn (a 0 1)) (h0 : tn (a 10 0) ≤ tn (a 0 1)) : phN 3 (tkA a v) = phs (tn (a 0 2)) (tn (a 3 1)) (tn (a 3 0)) (quN a 10 1 + 1) (tn (a 0 1) + 1 - tn v) (quN a 10 0 + 1) (tn (a 20 0)) (laN a) := by
  have g : phN 3 (tkA a v) = phX 3 (tn (a 0 2)) (tn (a 3 1)) (tn (a 3 0)) (tn (a 0 1 + 1) - tn (a 10 1)) (tn (a 0 1 + 1) - tn v) (tn (a 0 1 + 1) - tn (a 10 0)) (tn (a 20 0)) (laN a) (lateN (tkA a v) 1) := rfl
  rw [g, phX_3, e01]
  unfold quN
  rw [show tn (a 0 1) + 1 - tn (a 10 1) = tn (a 0 1) - tn (a 10 1) + 1 by omega, show tn (a 0 1) + 1 - tn (a 10 0) = tn (a 0 1) - tn (a 10 0) + 1 by omega]
/-- one tick keeps what is counted -/
theorem SI_tick1 {n : Nat → Nat} {rem l0 l1 : Nat} {a : AS} (hn : sm8 n ≤ 512) (hO : n 4 ≤ 40) (h : SI n 3 (rem + 1) l0 l1 a) (hq : qt a) (hT : tn (a 0 1) < 30000) :
    SI n 3 rem l0 l1 (gTk0 a) ∧ SI n 3 rem l0 l1 (gTk1 a).1 ∧ (((gTk1 a).1 = if a 3 0 = nI 0 then gTk0 a else wS (gTk0 a) 0 (10 ≤ quN a 9 0 + 1) (quN a 10 0 + 1 = 15)) ∧ (a 3 0 = nI 0 ∨ quN a 10 0 + 1 < 25) ∨ ∃ b, (gTk1 a).1 = gDown b ∧ b 0 1 = a 0 1 + 1) := by
  obtain ⟨T, eT, hT', eT2, hk⟩ := clk h
  obtain ⟨X0, e90, hX0, f90⟩ := hk 9 0 (by decide) (by omega)
  obtain ⟨C0, e100, hC0, f100⟩ := hk 10 0 (by decide) (by omega)
  obtain ⟨C1, e101, hC1, f101⟩ := hk 10 1 (by decide) (by omega)
  obtain ⟨X1, e91, hX1, f91⟩ := hk 9 1 (by decide) (by omega)
  have e01 : tn (a 0 1 + 1) = tn (a 0 1) + 1 := by
    rw [eT, show nI T + 1 = nI (T + 1) from nI_add T 1, tnI (by omega), tnI (by omega)]
  have hv0 := h.1.2.2 0 (by decide)
  have hv1 := h.1.2.2 1 (by decide)
  have q90 : quN a 9 0 = T - X0 := by unfold quN; rw [eT2, f90]
  have q100 : quN a 10 0 = T - C0 := by unfold quN; rw [eT2, f100]
  have hph : phN 3 (tkA a (a 9 1)) + (if a 3 0 ≠ nI 0 ∧ quN a 10 0 + 1 = 15 then 1 else 0) ≤ phN 3 a := by
    rw [phN_tk e01 (by omega) (by omega)]
    have g : phN 3 a = phs (tn (a 0 2)) (tn (a 3 1)) (tn (a 3 0)) (quN a 10 1) (quN a 9 1) (quN a 10 0) (tn (a 20 0)) (laN a) := phX_3 _ _ _ _ _ _ _ _ _
    rw [g, show tn (a 0 1) + 1 - tn (a 9 1) = quN a 9 1 + 1 by unfold quN; omega]
    have z0 : tn (a 3 0) ≠ 0 ↔ a 3 0 ≠ nI 0 := not_congr (tn0 (nn01 hv0.2.2.2.2.2.2.1))
    have := phs_tk (u := tn (a 0 2)) (o1 := tn (a 3 1)) (o0 := tn (a 3 0)) (dH := quN a 10 1) (eH := quN a 9 1) (dT := quN a 10 0) (q0 := tn (a 20 0)) (la := laN a)
      (fun h1 => by
        have := hq 1 (by decide) (fun h => h1 ((tn0 (nn01 hv1.2.2.2.2.2.2.1)).mpr h))
        unfold quN; omega)
      (fun h1 => by
        have := hv0.2.2.2.2.2.2.2.2.1 (fun h => h1 ((tn0 (nn01 hv0.2.2.2.2.2.2.1)).mpr h))
        exact fun h2 => this ((tn0 (nn01 h.1.2.1)).mp h2))
    simp only [z0] at this
    exact this
  have s0 : SI n 3 rem l0 l1 (gTk0 a) := by
    rw [← tkA_id]
    exact (SI_tk (y0 := 0) (y1 := 0) h hT (Or.inl rfl) (by omega) (Nat.zero_le _)).1
  refine ⟨s0, ?_⟩
  rw [gTk1_n eT (by omega) e90 hX0 e100 hC0]
  by_cases c0 : a 3 0 = nI 0
  · rw [if_pos c0]
    exact ⟨s0, Or.inl ⟨by rw [if_pos c0], Or.inl c0⟩⟩
  · rw [if_neg c0]
    have hup : gTk0 a 0 2 ≠ nI 0 := hv0.2.2.2.2.2.2.2.2.1 c0
    by_cases c1 : 25 ≤ T - C0 + 1
    · rw [if_pos c1]
      refine ⟨SI_cut (by decide) ?_, Or.inr ⟨_, rfl, ?_⟩⟩
      · by_cases c2 : 10 ≤ T - X0 + 1
        · rw [if_pos c2]
          refine SI_beat0 hn hO hup ?_ s0
          show 10 ≤ tn (a 0 1 + 1) - tn (a 9 0)
          omega
        · rw [if_neg c2]; exact s0
      · split
        · rw [(w_10 (gTk0 a) 0 0).2.2.1]; rfl
        · rfl
    · rw [if_neg c1]
      have := SI_tk1 (y0 := 0) (y1 := 0) hn hO h hT (Or.inl rfl) (by omega) (Nat.zero_le _) (Or.inr (by omega))
      rw [if_neg c0, tkA_id, q90, q100] at this
      refine ⟨this, Or.inl ⟨?_, Or.inr (by omega)⟩⟩
      rw [if_neg c0, q90, q100]
