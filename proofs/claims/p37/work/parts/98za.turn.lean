/-! What is held, in its turn. -/
def lin (k i : Nat) : Prop := k = 3 ∨ k = 5 ∨ k = 6 ∨ k = 7 ∨ k = 8 ∨ k = 10 ∨ k = 18 ∨ k = 19 ∨ k = 23 ∨ (k = 0 ∧ i ≠ 35 ∧ i ≠ 32)
theorem gRoutes_l (a : AS) (o k i : Nat) (h : lin k i) : gRoutes a o k i = a k i := by
  unfold lin at h
  unfold gRoutes gRep
  split
  · exact gRouteL_k o 102 a k i (by omega) (by omega) (by omega) (by omega)
  · rw [gSends_k _ _ _ _ _ _ _ _ _ (by omega) (by omega) (by omega) (by omega) (by omega)]
    exact gRouteL_k o 102 a k i (by omega) (by omega) (by omega) (by omega)
theorem gWork_l (a : AS) (q k i : Nat) (h : lin k i) : gWork a q k i = a k i := by
  have hs : ∀ (b : AS) (σ : Int32) (o : Nat) (x y : Int32), gRep b σ o x y k i = b k i := fun b σ o x y => by
    unfold lin at h
    exact gSends_k _ _ _ _ _ _ _ _ _ (by omega) (by omega) (by omega) (by omega) (by omega)
  have h' := h
  unfold lin at h'
  unfold gWork
  repeat' split
  · rw [gRoutes_l _ _ _ _ h, hs, gBehind]; simp (disch := omega) only [up2_n]
  · rfl
  · rw [hs]
  · rw [hs]; simp (disch := omega) only [up2_n]
  · rw [gRoutes_l _ _ _ _ h, hs, gBehind]; simp (disch := omega) only [up2_n]
theorem gKnows_l (o : Nat) : ∀ (d e : Nat) (a : AS) (k i : Nat), lin k i → gKnows o d e a k i = a k i := by
  intro d
  induction d with
  | zero => intro e a k i _; rfl
  | succ d ih =>
    intro e a k i h
    show gKnows o d (e + 1) (gKnow1 a o e) k i = _
    rw [ih _ _ _ _ h]
    unfold lin at h
    unfold gKnow1
    rw [up2_n _ _ (by omega), up2_n _ _ (by omega), up2_n _ _ (by omega)]
theorem gLearns_l (a : AS) (q k i : Nat) (h : lin k i) : gLearns a q k i = a k i := by
  have h' := h
  unfold lin at h'
  unfold gLearns gEndReq
  rw [up2_n _ _ (by omega)]
  unfold gLrn
  repeat' split
  all_goals first | rfl | exact gKnows_l _ _ _ _ _ _ h | (simp (disch := omega) only [up2_n])
theorem gTkW_l (a : AS) (s q k i : Nat) (h : lin k i) : gTkW a s q k i = a k i := by
  have h' := h
  unfold lin at h'
  unfold gTkW
  repeat' split
  · exact gSends_k _ _ _ _ _ _ _ _ _ (by omega) (by omega) (by omega) (by omega) (by omega)
  · exact gLearns_l _ _ _ _ h
  · rfl
  · rfl
  · exact gWork_l _ _ _ _ h
theorem gTakes_l (a : AS) (s n f k i : Nat) (h : lin k i) (h5 : k ≠ 5) : gTakes a s n f k i = a k i := by
  unfold gTakes
  split
  · rw [up2_n _ _ (by omega)]
  · rw [gTkW_l _ _ _ _ _ h, up2_n _ _ (by omega)]
theorem gHd1_l (a : AS) (s k i : Nat) (h : lin k i) (h5 : k ≠ 5) (h6 : k ≠ 6) (h18 : k ≠ 18) : gHd1 a s k i = a k i := by
  unfold gHd1
  rw [gThrow_r _ _ _ h6 h18, gTakes_l _ _ _ _ _ _ h h5]
  unfold gHd0
  rw [up2_n _ _ (by omega), up2_n _ _ (by omega)]
/-- what the loop keeps -/
def hdP (n : Nat → Nat) (l0 l1 s : Nat) (a : AS) : Prop := SI n (1 + s) 0 l0 l1 a ∧ ¬ a 3 s = nI 0 ∧ tn (a 7 s) < tn (a 5 s) ∧ ∀ i, hN a s i ≠ 0 → tn (a 5 s) ≤ i
theorem gHd1_5 {a : AS} {s : Nat} (hv : svS a s) (hh : hN a s (tn (a 5 s)) ≠ 0) : gHd1 a s 5 s = nI (hx (hN a s (tn (a 5 s))) (tn (a 5 s))) := by
  obtain ⟨-, -, -, -, -, -, -, -, -, -, v11⟩ := hv
  have hE : tn (a 5 s) < 8192 := Classical.byContradiction (fun c => hh (by unfold hN; rw [if_neg c]))
  obtain ⟨v, ev, hv1, hv2⟩ := v11 (tn (a 5 s)) hE
  have eh : hN a s (tn (a 5 s)) = v := by unfold hN; rw [if_pos hE, ev, tnI (by omega)]
  rw [eh] at hh ⊢
  unfold gHd1
  rw [gThrow_r _ _ 5 (by decide) (by decide)]
  unfold gTakes hdF
  rw [ev]
  by_cases c1 : v = 1
  · subst c1
    rw [if_pos rfl, if_neg (by decide), gTkW_l _ _ _ _ _ (Or.inr (Or.inl rfl)), up2_s]
    rfl
  · rw [if_neg (fun h => c1 ((nI_eq (by omega) (by decide)).mp h)), tnI (by omega), if_pos (by omega), up2_s]
    unfold hx
    rw [if_neg (show ¬ v ≤ 1 by omega)]
theorem hdP_1 {n : Nat → Nat} {l0 l1 s : Nat} {a : AS} (hn : sm8 n ≤ 512) (hO : n 4 ≤ 40) (hs : s < 2) (hh : hN a s (tn (a 5 s)) ≠ 0) (hw : hN a s (tn (a 5 s)) = 1 → wrk a s (tn (a 5 s))) (h : hdP n l0 l1 s a) : hdP n l0 l1 s (gHd1 a s) ∧ tn (a 5 s) < tn (gHd1 a s 5 s) := by
  obtain ⟨h1, hon, hA, hb⟩ := h
  have e5 := gHd1_5 (h1.1.2.2 s hs) hh
  have hx8 := (SI_unh hs hh hA hon h1).2.1
  have hgt := hx_gt (hN a s (tn (a 5 s))) (tn (a 5 s))
  have e5' : tn (gHd1 a s 5 s) = hx (hN a s (tn (a 5 s))) (tn (a 5 s)) := by rw [e5, tnI (by omega)]
  have g := SI_hd1 hn hO hs rfl hon hh hA hw h1
  refine ⟨⟨g, ?_, ?_, fun i hi => ?_⟩, by omega⟩
  · rw [gHd1_l a s 3 s (by unfold lin; omega) (by decide) (by decide) (by decide)]; exact hon
  · rw [gHd1_l a s 7 s (by unfold lin; omega) (by decide) (by decide) (by decide)]; omega
  · have e : gHd1 a s 5 s = gTakes (gHd0 a s) s (tn (a 5 s)) (hdF a s) 5 s := by
      unfold gHd1
      rw [gThrow_r _ _ 5 (by decide) (by decide)]
    have hE : tn (gTakes (gHd0 a s) s (tn (a 5 s)) (hdF a s) 5 s) ≤ 8191 := by rw [← e]; omega
    have ht := thr_hN (t := s) hs hs hE i
    have hi' : hN (gThrow (gTakes (gHd0 a s) s (tn (a 5 s)) (hdF a s)) s) s i ≠ 0 := hi
    rw [e]
    refine Nat.le_of_not_lt (fun hlt => hi' ?_)
    rw [ht, if_pos ⟨rfl, hlt⟩]
