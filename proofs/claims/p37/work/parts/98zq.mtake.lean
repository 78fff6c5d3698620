/-! What comes, in what is kept: taken, thrown away, held, answered. -/
theorem MI_5 {K O E R s E' : Nat} {a : AS} (hE' : E' ≤ 8191) (h5 : tn (a 5 s) ≤ E') (h : MI K O E R a) : MI K O E R (up2 a 5 s (nI E')) := by
  refine MI_line (fun k i hk => up2_n _ _ (by omega)) (fun i hi => up2_n _ _ (by omega)) (fun o' h1 h2 => ⟨up2_n _ _ (by omega), up2_n _ _ (by omega)⟩) (fun t ht => ?_) h
  by_cases c : t = s
  · subst c
    rw [up2_s, tnI (by omega)]
    exact h5
  · rw [up2_n _ _ (by omega)]
    exact Nat.le_refl _
theorem MI_thr {K O E R s : Nat} {a : AS} (h : MI K O E R a) : MI K O E R (gThrow a s) :=
  MI_line (fun k i hk => by rw [gThrow_r _ _ k (by omega) (by omega)]) (fun i hi => by rw [gThrow_r _ _ 0 (by omega) (by omega)]) (fun o _ _ => by rw [gThrow_r _ _ 29 (by omega) (by omega), gThrow_r _ _ 30 (by omega) (by omega)]; exact ⟨rfl, rfl⟩) (fun t _ => by rw [gThrow_r _ _ 5 (by omega) (by omega)]; exact Nat.le_refl _) h
theorem MI_hd0 {K O E R s : Nat} {a : AS} (h : MI K O E R a) : MI K O E R (gHd0 a s) := by
  have r : ∀ k, k ≠ 6 → k ≠ 18 → gHd0 a s k = a k := fun k h1 h2 => by unfold gHd0; rw [up2_k _ _ h1, up2_k _ _ h2]
  exact MI_line (fun k i hk => by rw [r k (by omega) (by omega)]) (fun i hi => by rw [r 0 (by omega) (by omega)]) (fun o _ _ => by rw [r 29 (by omega) (by omega), r 30 (by omega) (by omega)]; exact ⟨rfl, rfl⟩) (fun t _ => by rw [r 5 (by omega) (by omega)]; exact Nat.le_refl _) h
theorem MI_hold {K O E R s n f : Nat} {a : AS} (h : MI K O E R a) : MI K O E R (gHold a s n f) :=
  MI_line (fun k i hk => by rw [gHold_r _ _ _ _ k (by omega) (by omega)]) (fun i hi => by rw [gHold_r _ _ _ _ 0 (by omega) (by omega)]) (fun o _ _ => by rw [gHold_r _ _ _ _ 29 (by omega) (by omega), gHold_r _ _ _ _ 30 (by omega) (by omega)]; exact ⟨rfl, rfl⟩) (fun t _ => by rw [gHold_r _ _ _ _ 5 (by omega) (by omega)]; exact Nat.le_refl _) h
theorem MI_ask {K O E R s : Nat} {a : AS} (hs : s < 2) (hrm : rm3 a) (hv : sv a) (h : MI K O E R a) : MI K O E R (gAsk a s) := by
  unfold gAsk
  split
  · exact h
  · obtain ⟨S, e4, hS⟩ := hrm s hs
    obtain ⟨-, ⟨E5, e5, hE5⟩, -⟩ := hv.2.2 s hs
    have r : ∀ k, k ≠ 7 → k ≠ 8 → up2 (up2 a 7 s (a 5 s)) 8 s (a 0 1) k = a k := fun k h1 h2 => up7_r _ _ _ _ k h1 h2
    have hb : MI K O E R (up2 (up2 a 7 s (a 5 s)) 8 s (a 0 1)) := MI_line (fun k i hk => by rw [r k (by omega) (by omega)]) (fun i hi => by rw [r 0 (by omega) (by omega)]) (fun o _ _ => by rw [r 29 (by omega) (by omega), r 30 (by omega) (by omega)]; exact ⟨rfl, rfl⟩) (fun t _ => by rw [r 5 (by omega) (by omega)]; exact Nat.le_refl _) h
    have := MI_ses (k := 3) (g := E5) (s := s) (S := S) hs (by rw [r 4 (by omega) (by omega)]; exact e4) (by omega) (by
      unfold lgN
      rw [r 4 (by omega) (by omega)]
      have := rm3_lg hrm (show 0 < 2 by decide)
      unfold lgN at this
      omega) (by omega) hE5 hb
    rw [← e5] at this
    exact this
theorem MI_pop {K O E R s : Nat} {a : AS} (h : MI K O E R a) : MI K O E R (gPop a s) :=
  MI_line (fun k i hk => by rw [gPop_r _ _ k (by omega) (by omega)]) (fun i hi => by rw [gPop_r _ _ 0 (by omega) (by omega)]) (fun o _ _ => by rw [gPop_r _ _ 29 (by omega) (by omega), gPop_r _ _ 30 (by omega) (by omega)]; exact ⟨rfl, rfl⟩) (fun t _ => by rw [gPop_r _ _ 5 (by omega) (by omega)]; exact Nat.le_refl _) h
theorem MI_cmA {K O E R s n f : Nat} {a : AS} (h : MI K O E R a) : MI K O E R (gCmA a s n f) :=
  MI_line (fun k i hk => by rw [gCmA_r _ _ _ _ k (by omega) (by omega)]) (fun i hi => by rw [gCmA_r _ _ _ _ 0 (by omega) (by omega)]) (fun o _ _ => by rw [gCmA_r _ _ _ _ 29 (by omega) (by omega), gCmA_r _ _ _ _ 30 (by omega) (by omega)]; exact ⟨rfl, rfl⟩) (fun t _ => by rw [gCmA_r _ _ _ _ 5 (by omega) (by omega)]; exact Nat.le_refl _) h
/-- an answer leaves out orders that are -/
theorem gLeave_29 {a : AS} {q o O : Nat} (h : a 11 q = nI 5 → ∃ o' : Nat, a 14 q = nI o' ∧ o' < O) (ho : O ≤ o) (hO : O ≤ 40) : gLeave a q 29 o = a 29 o := by
  unfold gLeave
  split
  · rename_i c
    obtain ⟨o', e, h'⟩ := h c.1
    rw [e, tnI (by omega), up2_n _ _ (by omega)]
  · rfl
theorem ansL_29 {s o O : Nat} (hO : O ≤ 40) (ho : O ≤ o) : ∀ (d n : Nat) (x : AS × Nat), (∀ m, n ≤ m → m < n + d → x.1 11 (8192 * s + m) = nI 5 → ∃ o' : Nat, x.1 14 (8192 * s + m) = nI o' ∧ o' < O) → (gAnsL s d n x).1 29 o = x.1 29 o := by
  intro d
  induction d with
  | zero => exact fun n x _ => rfl
  | succ d ih =>
    intro n x h
    show (gAnsL s d (n + 1) (gAns1 s x n)).1 29 o = _
    rw [ih (n + 1) (gAns1 s x n) (fun m h1 h2 => by
      rw [gAns1_k _ _ _ 11 _ (by omega) (by omega) (by omega) (by omega) (by omega), gAns1_k _ _ _ 14 _ (by omega) (by omega) (by omega) (by omega) (by omega)]
      exact h m (by omega) (by omega))]
    have hl := gLeave_29 (h n (Nat.le_refl _) (by omega)) ho hO
    by_cases hst : stays x.1 (8192 * s + n)
    · rw [show gAns1 s x n = (gLeave x.1 (8192 * s + n), if x.2 = 0 then n else x.2) from if_pos hst]
      exact hl
    · have e : ∀ (y : AS) (z g : Nat), gGoes y s z g 29 o = y 29 o := fun y z g => gGoes_k y s z g 29 o (by decide) (by decide) (by decide)
      rw [show gAns1 s x n = (gGoes (up2 (if 0 < x.2 then gGoes (gLeave x.1 (8192 * s + n)) s x.2 n else gLeave x.1 (8192 * s + n)) 13 (8192 * s + n) (nI 1)) s n 0, 0) from if_neg hst]
      show gGoes (up2 (if 0 < x.2 then gGoes (gLeave x.1 (8192 * s + n)) s x.2 n else gLeave x.1 (8192 * s + n)) 13 (8192 * s + n) (nI 1)) s n 0 29 o = x.1 29 o
      rw [e, up2_n _ _ (by omega)]
      split
      · rw [e]; exact hl
      · exact hl
theorem ans_29 {a : AS} {s g o O : Nat} (hO : O ≤ 40) (ho : O ≤ o) (h : ∀ n : Nat, 1 ≤ n → n ≤ tn (a 4 s) → a 11 (8192 * s + n) = nI 5 → ∃ o' : Nat, a 14 (8192 * s + n) = nI o' ∧ o' < O) : gAnswers a s g 29 o = a 29 o := by
  unfold gAnswers gAnsE
  have hl := ansL_29 (s := s) hO ho (tn (a 4 s) + 1 - max g 1) (max g 1) (a, 0) (fun m h1 h2 => h m (by omega) (by omega))
  split
  · rw [gGoes_k _ _ _ _ _ _ (by omega) (by omega) (by omega)]
    exact hl
  · exact hl
theorem MI_ans {K O E R s g : Nat} {a : AS} (hs : s < 2) (hv : sv a) (h : MI K O E R a) : MI K O E R (gAnswers a s g) := by
  obtain ⟨eO, eE, hO, hE, e35, -⟩ := MI_O h
  have ho := MI_ordIn hs hv h
  refine MI_line (fun k i hk => by rw [gAnswers_r _ _ _ k (by omega) (by omega) (by omega) (by omega) (by omega)]) (fun i hi => by rw [gAnswers_r _ _ _ 0 (by omega) (by omega) (by omega) (by omega) (by omega)]) (fun o h1 _ => ?_) (fun t _ => by rw [gAnswers_r _ _ _ 5 (by omega) (by omega) (by omega) (by omega) (by omega)]; exact Nat.le_refl _) h
  rw [gAnswers_r _ _ _ 30 (by omega) (by omega) (by omega) (by omega) (by omega)]
  refine ⟨ans_29 hO h1 (fun n n1 n2 n3 => ?_), rfl⟩
  obtain ⟨o', w1, w2⟩ := ho n n1 n2 n3
  exact ⟨o', w1, by omega⟩
/-- the expected one is taken, and worked -/
theorem MI_tkW {K O E R s n : Nat} {c : AS} (hs : s < 2) (e5 : tn (c 5 s) = n) (h1 : 1 ≤ n) (hn : n ≤ tn (c 4 (1 - s))) (hv : sv c) (hrm : rm3 c) (h : MI K O E R c) : ∃ E' R' : Nat, MI K O E' R' (gTkW (up2 c 5 s (nI (n + 1))) s (8192 * (1 - s) + n)) := by
  obtain ⟨S', e4', hS'⟩ := hrm (1 - s) (by omega)
  have hn3 : n ≤ 3000 := by rw [e4', tnI (by omega)] at hn; omega
  have hb := MI_5 (s := s) (E' := n + 1) (by omega) (by omega) h
  have r : ∀ k i : Nat, k ≠ 5 → up2 c 5 s (nI (n + 1)) k i = c k i := fun k i hk => up2_n _ _ (by omega)
  obtain ⟨kd, k1, k2, k3, k4, k5⟩ := sv_kd hv (show 1 - s < 2 by omega) h1 hn
  have hl0 : lgN c 0 ≤ 8190 := by have := rm3_lg hrm (show 0 < 2 by decide); omega
  have hlb : lgN (up2 c 5 s (nI (n + 1))) 0 ≤ 8190 := by unfold lgN; rw [r 4 _ (by omega)]; exact hl0
  unfold gTkW
  rw [r 11 _ (by omega), k1]
  by_cases c2 : kd = 2
  · rw [if_pos (by rw [c2])]
    obtain ⟨S, e4, hS⟩ := hrm s hs
    exact ⟨E, R, MI_ses (k := 1) (g := 0) hs ((r 4 _ (by omega)).trans e4) (by omega) hlb (by omega) (by omega) hb⟩
  rw [if_neg (fun hh => c2 ((nI_eq (by omega) (by omega)).mp hh))]
  rcases (show s = 0 ∨ s = 1 by omega) with rfl | rfl
  · rw [if_pos rfl]
    by_cases c8 : kd = 8
    · rw [if_pos (by rw [c8])]
      have hm2 := h.2.2.2.2.2.2.2.2.2.1
      refine ⟨E, R, MI_learns h1 (by rw [r 4 _ (by omega)]; exact hn) (by rw [up2_s, tnI (by omega)]; omega) ((r 11 _ (by omega)).trans (by rw [show 8192 * 1 + n = 8192 * (1 - 0) + n from rfl, k1, c8])) (fun f t e hF w1 w2 => ?_) (fun e hB => ?_) hb⟩
      · rw [r 42 _ (by omega)]
        exact hm2.1 n f t e (by omega) hn (isF_c (r 11 _ (by omega)) (r 14 _ (by omega)) (r 16 _ (by omega)) (r 17 _ (by omega)) hF) w1 w2
      · rw [r 43 _ (by omega)]
        exact hm2.2 n e (by omega) hn (isB_c (r 11 _ (by omega)) (r 14 _ (by omega)) (r 16 _ (by omega)) hB)
    · rw [if_neg (fun hh => c8 ((nI_eq (by omega) (by omega)).mp hh))]
      exact ⟨E, R, hb⟩
  · rw [if_neg (by decide)]
    by_cases c5 : kd < 5
    · rw [if_pos ((nI_ltI (by omega) (by omega)).mpr c5)]
      exact ⟨E, R, hb⟩
    · rw [if_neg (fun hh => c5 ((nI_ltI (by omega) (by omega)).mp hh))]
      obtain ⟨S, e4, hS⟩ := hrm 1 (by decide)
      have hm := MI_mm1 h 0 n (by omega) h1 hn
      obtain ⟨o, o1, o2⟩ := hm.2.2.1 rfl kd (by omega) (k4 rfl) k1
      have hmb := MI_mm1 hb 0 n (by omega) h1 (by rw [r 4 _ (by omega)]; exact hn)
      refine MI_work (kd := kd) (S := S) ((r 11 _ (by omega)).trans k1) (by have := k4 rfl; omega) hmb.1 ((r 14 _ (by omega)).trans o2) o1 ((r 4 _ (by omega)).trans e4) (by omega) hlb ?_ hb
      have h12 := h.2.2.2.2.2.2.2.2.2.2.2
      unfold mm4 at h12 ⊢
      rw [e5] at h12
      rw [up2_s, tnI (by omega)]
      have ek : kF (up2 c 5 1 (nI (n + 1))) 0 = kF c 0 := by
        funext i
        unfold kF
        rw [r 11 _ (by omega)]
      have el : lgN (up2 c 5 1 (nI (n + 1))) 0 = lgN c 0 := by unfold lgN; rw [r 4 _ (by omega)]
      rw [ek, el]
      have := pnd_take (p := isA) (f := kF c 0) (E := n) (E' := n + 1) (by omega) h1 (by
        unfold isA kF
        rw [show 8192 * 0 + n = 8192 * (1 - 1) + n from rfl, k1, tnI (by omega)]
        exact decide_eq_true (by omega)) (lgN c 0) hn
      omega
theorem MI_takes {K O E R s n f : Nat} {c : AS} (hs : s < 2) (e5 : tn (c 5 s) = n) (h1 : 1 ≤ n) (hn : n ≤ tn (c 4 (1 - s))) (hf : f ≤ 8191) (hv : sv c) (hrm : rm3 c) (h : MI K O E R c) : ∃ E' R' : Nat, MI K O E' R' (gTakes c s n f) := by
  unfold gTakes
  split
  · obtain ⟨S', e4', hS'⟩ := hrm (1 - s) (by omega)
    have hn3 : n ≤ 3000 := by rw [e4', tnI (by omega)] at hn; omega
    exact ⟨E, R, MI_5 (by split <;> omega) (by split <;> omega) h⟩
  · exact MI_tkW hs e5 h1 hn hv hrm h
