/-! A message more, in what is kept. -/
theorem snd_m {a : AS} {s S : Nat} {kd o1 o2 o3 o4 : Int32} (e : a 4 s = nI S) (hS : S < 2 ^ 30) (k i : Nat) (hk : k = 11 ∨ k = 14 ∨ k = 15 ∨ k = 16 ∨ k = 17) (h : i ≠ 8192 * s + (S + 1)) : gSends a s kd o1 o2 o3 o4 k i = a k i := by
  obtain ⟨h4, h11, h12, h13, h14, h15, h16, h17⟩ := gKeep_rows a s S kd o1 o2 o3 o4 e (by omega)
  rcases hk with rfl | rfl | rfl | rfl | rfl
  · rw [gSends_q _ _ _ _ _ _ _ _ (by decide) (by decide) (by decide), h11, up1_n _ _ h]
  · rw [gSends_q _ _ _ _ _ _ _ _ (by decide) (by decide) (by decide), h14, up1_n _ _ h]
  · rw [gSends_q _ _ _ _ _ _ _ _ (by decide) (by decide) (by decide), h15, up1_n _ _ h]
  · rw [gSends_q _ _ _ _ _ _ _ _ (by decide) (by decide) (by decide), h16, up1_n _ _ h]
  · rw [gSends_q _ _ _ _ _ _ _ _ (by decide) (by decide) (by decide), h17, up1_n _ _ h]
theorem snd_new {a : AS} {s S : Nat} {kd o1 o2 o3 o4 : Int32} (e : a 4 s = nI S) (hS : S < 2 ^ 30) : gSends a s kd o1 o2 o3 o4 11 (8192 * s + (S + 1)) = kd ∧ gSends a s kd o1 o2 o3 o4 14 (8192 * s + (S + 1)) = o1 ∧ gSends a s kd o1 o2 o3 o4 15 (8192 * s + (S + 1)) = o2 ∧ gSends a s kd o1 o2 o3 o4 16 (8192 * s + (S + 1)) = o3 ∧ gSends a s kd o1 o2 o3 o4 17 (8192 * s + (S + 1)) = o4 := by
  obtain ⟨h4, h11, h12, h13, h14, h15, h16, h17⟩ := gKeep_rows a s S kd o1 o2 o3 o4 e (by omega)
  refine ⟨?_, ?_, ?_, ?_, ?_⟩
  · rw [gSends_q _ _ _ _ _ _ _ _ (by decide) (by decide) (by decide), h11, up1_s]
  · rw [gSends_q _ _ _ _ _ _ _ _ (by decide) (by decide) (by decide), h14, up1_s]
  · rw [gSends_q _ _ _ _ _ _ _ _ (by decide) (by decide) (by decide), h15, up1_s]
  · rw [gSends_q _ _ _ _ _ _ _ _ (by decide) (by decide) (by decide), h16, up1_s]
  · rw [gSends_q _ _ _ _ _ _ _ _ (by decide) (by decide) (by decide), h17, up1_s]
theorem MI_snd {K K' O E R s S : Nat} {a : AS} {kd o1 o2 o3 o4 : Int32} (hs : s < 2) (e : a 4 s = nI S) (hS : S + 1 ≤ 8190) (hl : lgN a 0 ≤ 8190)
    (hn : mK (gSends a s kd o1 o2 o3 o4) s O E (8192 * s + (S + 1)))
    (hf : s = 1 → kd = nI 8 → (∀ f t : Nat, o1 = nI 1 → o3 = nI f → o4 = nI t → f + t ≤ 100 → (∀ e, f ≤ e → e < f + t → a 42 e = nI 0) ∧ ∀ n f' t' : Nat, 1 ≤ n → n ≤ S → isF a (8192 * 1 + n) f' t' → f' + t' ≤ f) ∧ ∀ x : Nat, o1 = nI 5 → o3 = nI x → x < 100 → a 43 x = nI 0 ∧ ∀ n : Nat, 1 ≤ n → n ≤ S → ¬ isB a (8192 * 1 + n) x)
    (hK : K + (if s = 0 ∧ 5 ≤ tn kd then 1 else 0) ≤ K') (h : MI K O E R a) : MI K' O E R (gSends a s kd o1 o2 o3 o4) := by
  obtain ⟨g1, g2, g3, g4, g5, g6, g7, g8, g9, g10, g11, g12⟩ := h
  have F : ∀ k i : Nat, (k = 0 ∨ k = 5 ∨ 22 ≤ k) → gSends a s kd o1 o2 o3 o4 k i = a k i := fun k i hk => gSends_k _ _ _ _ _ _ _ _ _ (by omega) (by omega) (by omega) (by omega) (by omega)
  have e4 : tn (gSends a s kd o1 o2 o3 o4 4 s) = S + 1 := by rw [snd_4 e (by omega), tnI (by omega)]
  have e4a : tn (a 4 s) = S := by rw [e, tnI (by omega)]
  have e4o : ∀ t, t ≠ s → gSends a s kd o1 o2 o3 o4 4 t = a 4 t := fun t ht => gSends_4o _ _ _ _ _ _ ht
  obtain ⟨n11, n14, n15, n16, n17⟩ := snd_new (kd := kd) (o1 := o1) (o2 := o2) (o3 := o3) (o4 := o4) e (by omega)
  have old : ∀ t n, t < 2 → 1 ≤ n → n ≤ tn (gSends a s kd o1 o2 o3 o4 4 t) → ¬ (t = s ∧ n = S + 1) → n ≤ tn (a 4 t) ∧ ∀ k, k = 11 ∨ k = 14 ∨ k = 15 ∨ k = 16 ∨ k = 17 → gSends a s kd o1 o2 o3 o4 k (8192 * t + n) = a k (8192 * t + n) := fun t n ht h1 hn hc => by
    by_cases c : t = s
    · subst c
      rw [e4] at hn
      exact ⟨by omega, fun k hk => snd_m e (by omega) k _ hk (by omega)⟩
    · rw [e4o t c] at hn
      refine ⟨hn, fun k hk => snd_m e (by omega) k _ hk ?_⟩
      rcases (show (t = 0 ∧ s = 1) ∨ (t = 1 ∧ s = 0) by omega) with ⟨rfl, rfl⟩ | ⟨rfl, rfl⟩
      · unfold lgN at hl; omega
      · omega
  refine ⟨?_, mb2_c (fun o _ => ⟨F _ _ (by omega), F _ _ (by omega), F _ _ (by omega), F _ _ (by omega)⟩) (fun e _ => ⟨F _ _ (by omega), F _ _ (by omega), F _ _ (by omega)⟩) g2, mb3_c (fun o _ => F _ _ (by omega)) (fun e _ => ⟨F _ _ (by omega), F _ _ (by omega), F _ _ (by omega), F _ _ (by omega)⟩) g3, mb4_c (fun o _ => ⟨F _ _ (by omega), F _ _ (by omega), F _ _ (by omega)⟩) g1.2.1 g4, fun e he => exK_c ⟨F _ _ (by omega), F _ _ (by omega), F _ _ (by omega), F _ _ (by omega), F _ _ (by omega), F _ _ (by omega), F _ _ (by omega), F _ _ (by omega)⟩ (fun o _ c => by rw [F _ _ (by omega)]; exact c) (g5 e he), mb6_c (fun e _ _ => ⟨F _ _ (by omega), F _ _ (by omega), F _ _ (by omega), F _ _ (by omega), F _ _ (by omega), F _ _ (by omega), F _ _ (by omega)⟩) g6, mb7_c (fun q _ => ⟨F _ _ (by omega), F _ _ (by omega)⟩) g7, frO_c (F _ _ (by omega)) (fun o h1 h2 => ⟨F _ _ (by omega), F _ _ (by omega), F _ _ (by omega), F _ _ (by omega), F _ _ (by omega), F _ _ (by omega), F _ _ (by omega), F _ _ (by omega), F _ _ (by omega), F _ _ (by omega)⟩) g8, fun t n ht h1 hn' => ?_, ⟨fun n f t x h1 hn' hF w1 w2 => ?_, fun n x h1 hn' hB => ?_⟩, ⟨fun n n' f t f' t' h1 hn' hn2 hF hF' => ?_, fun n n' x h1 hn' hn2 hB hB' => ?_⟩, ?_⟩
  · obtain ⟨w1, w2, w3, w4, w5⟩ := g1
    exact ⟨(F _ _ (by omega)).trans w1, w2, (F _ _ (by omega)).trans w3, w4, (F _ _ (by omega)).trans w5⟩
  · by_cases c : t = s ∧ n = S + 1
    · obtain ⟨rfl, rfl⟩ := c
      exact hn
    · obtain ⟨w1, w2⟩ := old t n ht h1 hn' c
      exact mK_c (Nat.le_refl _) (Nat.le_refl _) w2 (fun e _ => ⟨F _ _ (by omega), fun c => by rw [F _ _ (by omega)]; exact c⟩) (g9 t n ht h1 w1)
  · rw [F 5 0 (by omega)] at h1
    rw [F 42 x (by omega)]
    by_cases c : 1 = s ∧ n = S + 1
    · obtain ⟨rfl, rfl⟩ := c
      obtain ⟨y1, y2, y3, y4, y5⟩ := hF
      exact ((hf rfl (n11.symm.trans y1)).1 f t (n14.symm.trans y2) (n16.symm.trans y3) (n17.symm.trans y4) y5).1 x w1 w2
    · by_cases c1 : 1 ≤ n
      · obtain ⟨w3, w4⟩ := old 1 n (by decide) c1 hn' c
        exact g10.1 n f t x h1 w3 (isF_c (w4 11 (by omega)) (w4 14 (by omega)) (w4 16 (by omega)) (w4 17 (by omega)) hF) w1 w2
      · have c0 : n = 0 := by omega
        subst c0
        have hq : (8192 * 1 + 0 : Nat) ≠ 8192 * s + (S + 1) := by
          rcases (show s = 0 ∨ s = 1 by omega) with rfl | rfl <;> omega
        exact g10.1 0 f t x h1 (Nat.zero_le _) (isF_c (snd_m e (by omega) 11 _ (by omega) hq) (snd_m e (by omega) 14 _ (by omega) hq) (snd_m e (by omega) 16 _ (by omega) hq) (snd_m e (by omega) 17 _ (by omega) hq) hF) w1 w2
  · rw [F 5 0 (by omega)] at h1
    rw [F 43 x (by omega)]
    by_cases c : 1 = s ∧ n = S + 1
    · obtain ⟨rfl, rfl⟩ := c
      obtain ⟨y1, y2, y3, y4⟩ := hB
      exact ((hf rfl (n11.symm.trans y1)).2 x (n14.symm.trans y2) (n16.symm.trans y3) y4).1
    · by_cases c1 : 1 ≤ n
      · obtain ⟨w3, w4⟩ := old 1 n (by decide) c1 hn' c
        exact g10.2 n x h1 w3 (isB_c (w4 11 (by omega)) (w4 14 (by omega)) (w4 16 (by omega)) hB)
      · have c0 : n = 0 := by omega
        subst c0
        have hq : (8192 * 1 + 0 : Nat) ≠ 8192 * s + (S + 1) := by
          rcases (show s = 0 ∨ s = 1 by omega) with rfl | rfl <;> omega
        exact g10.2 0 x h1 (Nat.zero_le _) (isB_c (snd_m e (by omega) 11 _ (by omega) hq) (snd_m e (by omega) 14 _ (by omega) hq) (snd_m e (by omega) 16 _ (by omega) hq) hB)
  · by_cases c : 1 = s ∧ n' = S + 1
    · obtain ⟨rfl, rfl⟩ := c
      obtain ⟨w3, w4⟩ := old 1 n (by decide) h1 (by omega) (by omega)
      obtain ⟨y1, y2, y3, y4, y5⟩ := hF'
      exact ((hf rfl (n11.symm.trans y1)).1 f' t' (n14.symm.trans y2) (n16.symm.trans y3) (n17.symm.trans y4) y5).2 n f t h1 (by omega) (isF_c (w4 11 (by omega)) (w4 14 (by omega)) (w4 16 (by omega)) (w4 17 (by omega)) hF)
    · obtain ⟨w1, w2⟩ := old 1 n' (by decide) (by omega) hn2 c
      obtain ⟨w3, w4⟩ := old 1 n (by decide) h1 (by omega) (fun hh => by
        obtain ⟨rfl, rfl⟩ := hh
        omega)
      exact g11.1 n n' f t f' t' h1 hn' w1 (isF_c (w4 11 (by omega)) (w4 14 (by omega)) (w4 16 (by omega)) (w4 17 (by omega)) hF) (isF_c (w2 11 (by omega)) (w2 14 (by omega)) (w2 16 (by omega)) (w2 17 (by omega)) hF')
  · by_cases c : 1 = s ∧ n' = S + 1
    · obtain ⟨rfl, rfl⟩ := c
      obtain ⟨w3, w4⟩ := old 1 n (by decide) h1 (by omega) (by omega)
      obtain ⟨y1, y2, y3, y4⟩ := hB'
      exact ((hf rfl (n11.symm.trans y1)).2 x (n14.symm.trans y2) (n16.symm.trans y3) y4).2 n h1 (by omega) (isB_c (w4 11 (by omega)) (w4 14 (by omega)) (w4 16 (by omega)) hB)
    · obtain ⟨w1, w2⟩ := old 1 n' (by decide) (by omega) hn2 c
      obtain ⟨w3, w4⟩ := old 1 n (by decide) h1 (by omega) (fun hh => by
        obtain ⟨rfl, rfl⟩ := hh
        omega)
      exact g11.2 n n' x h1 hn' w1 (isB_c (w4 11 (by omega)) (w4 14 (by omega)) (w4 16 (by omega)) hB) (isB_c (w2 11 (by omega)) (w2 14 (by omega)) (w2 16 (by omega)) hB')
  · unfold mm4 at g12 ⊢
    rw [F 5 1 (by omega)]
    rcases (show s = 0 ∨ s = 1 by omega) with rfl | rfl
    · obtain ⟨l1, l2⟩ := snd_lg (kd := kd) (o1 := o1) (o2 := o2) (o3 := o3) (o4 := o4) e (by omega)
      rw [l1, (snd_runs (by decide) e hS).2.2.2.1]
      rw [l2] at g12
      have : (if tn (a 5 1) ≤ S + 1 ∧ isA (tn kd) = true then 1 else 0) ≤ (if (0 : Nat) = 0 ∧ 5 ≤ tn kd then 1 else 0) := by
        unfold isA
        by_cases c : 5 ≤ tn kd
        · rw [if_pos (show (0 : Nat) = 0 ∧ 5 ≤ tn kd from ⟨rfl, c⟩)]
          split <;> omega
        · rw [if_neg (fun h => c (of_decide_eq_true h.2))]
          exact Nat.zero_le _
      omega
    · rw [snd_lgo (show (0 : Nat) ≠ 1 by decide), (snd_runo (St := lgN a 0) (by decide) (by decide) (by decide) e hS (by omega)).2.2.2.1]
      omega
theorem vS_new {a : AS} {s S : Nat} {kd o1 o2 o3 o4 : Int32} (e : a 4 s = nI S) (hS : S < 2 ^ 30) (h1 : ∃ v : Nat, v ≤ 10000 ∧ o1 = nI v) (h2 : ∃ v : Nat, v ≤ 10000 ∧ o2 = nI v) (h3 : ∃ v : Nat, v ≤ 10000 ∧ o3 = nI v) (h4 : ∃ v : Nat, v ≤ 10000 ∧ o4 = nI v) : vS (gSends a s kd o1 o2 o3 o4) (8192 * s + (S + 1)) := fun k hk1 hk2 => by
  obtain ⟨n11, n14, n15, n16, n17⟩ := snd_new (kd := kd) (o1 := o1) (o2 := o2) (o3 := o3) (o4 := o4) e hS
  rcases (show k = 14 ∨ k = 15 ∨ k = 16 ∨ k = 17 by omega) with rfl | rfl | rfl | rfl
  · rw [n14]; exact h1
  · rw [n15]; exact h2
  · rw [n16]; exact h3
  · rw [n17]; exact h4
/-- a session message -/
theorem MI_ses {K O E R s k g S : Nat} {a : AS} (hs : s < 2) (e : a 4 s = nI S) (hS : S + 1 ≤ 8190) (hl : lgN a 0 ≤ 8190) (hk : k ≤ 3) (hg : g ≤ 8191) (h : MI K O E R a) : MI K O E R (gSends a s (nI k) (nI g) (nI 0) (nI 0) (nI 0)) := by
  obtain ⟨n11, n14, n15, n16, n17⟩ := snd_new (kd := nI k) (o1 := nI g) (o2 := nI 0) (o3 := nI 0) (o4 := nI 0) e (by omega)
  have z0 : ∃ v : Nat, v ≤ 10000 ∧ nI 0 = nI v := ⟨0, by omega, rfl⟩
  refine MI_snd hs e hS hl ⟨vS_new e (by omega) ⟨g, by omega, rfl⟩ z0 z0 z0, fun _ => ⟨g, hg, n14⟩, fun _ kd h5 h7 c => ?_, fun _ c => ?_⟩ (fun _ c => ?_) ?_ h
  · have := (nI_eq (by omega) (by omega)).mp (n11.symm.trans c)
    omega
  · have := (nI_eq (by omega) (by omega)).mp (n11.symm.trans c)
    omega
  · have := (nI_eq (by omega) (by omega)).mp c
    omega
  · rw [if_neg (fun c => by have := c.2; rw [tnI (by omega)] at this; omega)]
    exact Nat.le_refl _
/-- the trader's application messages -/
theorem MI_app {K O E R k o S : Nat} {a : AS} {x y z : Int32} (e : a 4 0 = nI S) (hS : S + 1 ≤ 8190) (hk : 5 ≤ k ∧ k ≤ 7) (ho : o < O) (hx : ∃ v : Nat, v ≤ 10000 ∧ x = nI v) (hy : ∃ v : Nat, v ≤ 10000 ∧ y = nI v) (hz : ∃ v : Nat, v ≤ 10000 ∧ z = nI v) (h : MI K O E R a) : MI (K + 1) O E R (gSends a 0 (nI k) (nI o) x y z) := by
  obtain ⟨n11, n14, n15, n16, n17⟩ := snd_new (kd := nI k) (o1 := nI o) (o2 := x) (o3 := y) (o4 := z) e (by omega)
  have hO := h.1.2.1
  refine MI_snd (by decide) e hS (by unfold lgN; rw [e, tnI (by omega)]; omega) ⟨vS_new e (by omega) ⟨o, by omega, rfl⟩ hx hy hz, fun c => ?_, fun _ _ _ _ _ => ⟨o, ho, n14⟩, fun c => by omega⟩ (fun c => by omega) ?_ h
  · have := (nI_eq (by omega) (by omega)).mp (n11.symm.trans c)
    omega
  · split <;> omega
/-- the house's reports -/
theorem MI_rep {K O E R σ o S : Nat} {a : AS} {x y : Int32} (e : a 4 1 = nI S) (hS : S + 1 ≤ 8190) (hl : lgN a 0 ≤ 8190) (hσ : σ ≤ 6) (ho : o < O) (hx : ∃ v : Nat, v ≤ 10000 ∧ x = nI v) (hy : ∃ v : Nat, v ≤ 10000 ∧ y = nI v)
    (h1 : σ = 1 → ∃ f t : Nat, x = nI f ∧ y = nI t ∧ f + t ≤ E ∧ (∀ e, f ≤ e → e < f + t → a 36 e = nI o ∧ a 42 e = nI 0) ∧ ∀ n f' t' : Nat, 1 ≤ n → n ≤ S → isF a (8192 * 1 + n) f' t' → f' + t' ≤ f)
    (h5 : σ = 5 → ∃ i : Nat, x = nI i ∧ i < E ∧ a 36 i = nI o ∧ a 43 (100 + i) ≠ nI 0 ∧ a 43 i = nI 0 ∧ ∀ n : Nat, 1 ≤ n → n ≤ S → ¬ isB a (8192 * 1 + n) i)
    (h6 : σ = 6 → ∃ i : Nat, x = nI i ∧ i < E) (h : MI K O E R a) : MI K O E R (gRep a (nI σ) o x y) := by
  obtain ⟨n11, n14, n15, n16, n17⟩ := snd_new (kd := nI 8) (o1 := nI σ) (o2 := nI o) (o3 := x) (o4 := y) e (by omega)
  have hO := h.1.2.1
  have hE := h.1.2.2.2.1
  have F : ∀ k i : Nat, 22 ≤ k → gSends a 1 (nI 8) (nI σ) (nI o) x y k i = a k i := fun k i hk => gSends_k _ _ _ _ _ _ _ _ _ (by omega) (by omega) (by omega) (by omega) (by omega)
  unfold gRep
  refine MI_snd (by decide) e hS hl ⟨vS_new e (by omega) ⟨σ, by omega, rfl⟩ ⟨o, by omega, rfl⟩ hx hy, fun c => ?_, fun c => by omega, fun _ _ => ⟨σ, o, n14, hσ, n15, ho, fun c => ?_, fun c => ?_, fun c => ?_⟩⟩ (fun _ _ => ⟨fun f t c1 c3 c4 c5 => ?_, fun i c1 c3 c4 => ?_⟩) ?_ h
  · have := (nI_eq (by omega) (by omega)).mp (n11.symm.trans c)
    omega
  · obtain ⟨f, t, w1, w2, w3, w4, w5⟩ := h1 c
    exact ⟨f, t, n16.trans w1, n17.trans w2, w3, fun i q1 q2 => (F _ _ (by omega)).trans (w4 i q1 q2).1⟩
  · obtain ⟨i, w1, w2, w3, w4, w5, w6⟩ := h5 c
    exact ⟨i, n16.trans w1, w2, (F _ _ (by omega)).trans w3, by rw [F _ _ (by omega)]; exact w4⟩
  · obtain ⟨i, w1, w2⟩ := h6 c
    exact ⟨i, n16.trans w1, w2⟩
  · obtain ⟨f', t', w1, w2, w3, w4, w5⟩ := h1 ((nI_eq (by omega) (by omega)).mp c1)
    have ef : f' = f := (nI_eq (by omega) (by omega)).mp (w1.symm.trans c3)
    have et : t' = t := (nI_eq (by omega) (by omega)).mp (w2.symm.trans c4)
    subst ef et
    exact ⟨fun i q1 q2 => (w4 i q1 q2).2, w5⟩
  · obtain ⟨j, w1, w2, w3, w4, w5, w6⟩ := h5 ((nI_eq (by omega) (by omega)).mp c1)
    have ei : j = i := (nI_eq (by omega) (by omega)).mp (w1.symm.trans c3)
    subst ei
    exact ⟨w5, w6⟩
  · rw [if_neg (fun c => by omega)]
    exact Nat.le_refl _
