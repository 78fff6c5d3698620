/-! What the other side has, when one side works. -/
def oth (a b : AS) (s : Nat) : Prop := (∀ i, i ≠ 35 → i ≠ 32 → b 0 i = a 0 i) ∧ (∀ k, k = 3 ∨ k = 4 ∨ k = 5 ∨ k = 9 ∨ k = 10 → b k (1 - s) = a k (1 - s)) ∧ ∀ i, i < 8192 → b 18 (8192 * (1 - s) + i) = a 18 (8192 * (1 - s) + i)
theorem oth_refl (a : AS) (s : Nat) : oth a a s := ⟨fun _ _ _ => rfl, fun _ _ => rfl, fun _ _ => rfl⟩
theorem oth_trans {a b c : AS} {s : Nat} (h : oth a b s) (h2 : oth b c s) : oth a c s :=
  ⟨fun i h1 h3 => (h2.1 i h1 h3).trans (h.1 i h1 h3), fun k hk => (h2.2.1 k hk).trans (h.2.1 k hk), fun i hi => (h2.2.2 i hi).trans (h.2.2 i hi)⟩
theorem oth_row {a b : AS} {s : Nat} (h0 : ∀ i, i ≠ 35 → i ≠ 32 → b 0 i = a 0 i) (h : ∀ k, k = 3 ∨ k = 4 ∨ k = 5 ∨ k = 9 ∨ k = 10 ∨ k = 18 → b k = a k) : oth a b s :=
  ⟨h0, fun k hk => by rw [h k (by omega)], fun i _ => by rw [h 18 (by omega)]⟩
theorem oth_snd {a : AS} {s : Nat} {kd o1 o2 o3 o4 : Int32} (hs : s < 2) : oth a (gSends a s kd o1 o2 o3 o4) s := by
  refine ⟨fun i _ _ => gSends_k _ _ _ _ _ _ _ _ _ (by omega) (by omega) (by omega) (by omega) (by omega), fun k hk => ?_, fun i _ => gSends_k _ _ _ _ _ _ _ _ _ (by omega) (by omega) (by omega) (by omega) (by omega)⟩
  by_cases c4 : k = 4
  · subst c4
    exact gSends_4o _ _ _ _ _ _ (by omega)
  · by_cases c9 : k = 9
    · subst c9
      rw [snd_9, if_neg (by omega)]
    · exact gSends_k _ _ _ _ _ _ _ _ _ (by omega) (by omega) (by omega) (by omega) (by omega)
theorem oth_routes {a : AS} {o : Nat} : oth a (gRoutes a o) 1 := by
  have h : oth a (gRouteL o 102 a) 1 := oth_row (fun i h1 _ => gRouteL_k o 102 a 0 i (by omega) (by omega) (by omega) (by omega)) (fun k hk => funext fun i => gRouteL_k o 102 a k i (by omega) (by omega) (by omega) (by omega))
  unfold gRoutes
  split
  · exact h
  · exact oth_trans h (oth_snd (by decide))
theorem oth_work {a : AS} {q : Nat} : oth a (gWork a q) 1 := by
  have hu : ∀ (b : AS) (k i : Nat) (v : Int32), 24 ≤ k → oth a b 1 → oth a (up2 b k i v) 1 := fun b k i v hk h => oth_trans h (oth_row (fun j _ _ => up2_n _ _ (by omega)) (fun k' hk' => up2_k _ _ (by omega)))
  have h32 : ∀ (b : AS) (v : Int32), oth a b 1 → oth a (up2 b 0 32 v) 1 := fun b v h => oth_trans h (oth_row (fun j _ _ => up2_n _ _ (by omega)) (fun k' hk' => up2_k _ _ (by omega)))
  have hr : ∀ (b : AS) (σ : Int32) (o : Nat) (x y : Int32), oth a b 1 → oth a (gRep b σ o x y) 1 := fun b σ o x y h => oth_trans h (oth_snd (by decide))
  have ht : ∀ (b : AS) (o : Nat), oth a b 1 → oth a (gRoutes b o) 1 := fun b o h => oth_trans h oth_routes
  have h0 := oth_refl a 1
  unfold gWork gBehind
  repeat' split
  · exact ht _ _ (hr _ _ _ _ _ (h32 _ _ (hu _ _ _ _ (by omega) (hu _ _ _ _ (by omega) (hu _ _ _ _ (by omega) (hu _ _ _ _ (by omega) h0))))))
  · exact h0
  · exact hr _ _ _ _ _ h0
  · exact hr _ _ _ _ _ (hu _ _ _ _ (by omega) h0)
  · exact ht _ _ (hr _ _ _ _ _ (h32 _ _ (hu _ _ _ _ (by omega) (hu _ _ _ _ (by omega) (hu _ _ _ _ (by omega) h0)))))
theorem gKnows_lo (o : Nat) : ∀ (d e : Nat) (a : AS) (k : Nat), k < 24 → gKnows o d e a k = a k := by
  intro d
  induction d with
  | zero => exact fun e a k _ => rfl
  | succ d ih =>
    intro e a k hk
    show gKnows o d (e + 1) (gKnow1 a o e) k = _
    rw [ih _ _ _ hk]
    exact gKnow1_r _ _ _ _ (by omega) (by omega) (by omega)
theorem gLearns_lo (a : AS) (q k : Nat) (h : k < 24) : gLearns a q k = a k := by
  unfold gLearns gEndReq
  rw [up2_k _ _ (by omega)]
  unfold gLrn
  repeat' split
  all_goals first | rfl | exact gKnows_lo _ _ _ _ _ h | (simp (disch := omega) only [up2_k])
theorem oth_tkW {a : AS} {s q : Nat} (hs : s < 2) : oth a (gTkW a s q) s := by
  unfold gTkW
  split
  · exact oth_snd hs
  · split
    · rename_i c
      subst c
      split
      · exact oth_row (fun i _ _ => by rw [gLearns_lo _ _ 0 (by omega)]) (fun k hk => gLearns_lo _ _ k (by omega))
      · exact oth_refl _ _
    · split
      · exact oth_refl _ _
      · have e : s = 1 := by omega
        subst e
        exact oth_work
theorem oth_5 {a : AS} {s : Nat} {v : Int32} (hs : s < 2) : oth a (up2 a 5 s v) s :=
  ⟨fun i _ _ => up2_n _ _ (by omega), fun k hk => up2_n _ _ (by omega), fun i _ => up2_n _ _ (by omega)⟩
theorem oth_takes {a : AS} {s n f : Nat} (hs : s < 2) : oth a (gTakes a s n f) s := by
  unfold gTakes
  split
  · exact oth_5 hs
  · exact oth_trans (oth_5 hs) (oth_tkW hs)
theorem oth_thr {a : AS} {s : Nat} (hs : s < 2) (hE : tn (a 5 s) ≤ 8191) : oth a (gThrow a s) s := by
  refine ⟨fun i _ _ => by rw [gThrow_r _ _ 0 (by omega) (by omega)], fun k hk => by rw [gThrow_r _ _ k (by omega) (by omega)], fun i hi => ?_⟩
  unfold gThrow
  rw [gThr_18, if_neg]
  rcases (show s = 0 ∨ s = 1 by omega) with rfl | rfl <;> omega
theorem oth_hd0 {a : AS} {s : Nat} (hs : s < 2) (hE : tn (a 5 s) ≤ 8191) : oth a (gHd0 a s) s := by
  unfold gHd0
  refine ⟨fun i _ _ => ?_, fun k hk => ?_, fun i hi => ?_⟩
  · rw [up2_n _ _ (by omega), up2_n _ _ (by omega)]
  · rw [up2_n _ _ (by omega), up2_n _ _ (by omega)]
  · rw [up2_n _ _ (by omega), up2_n _ _ (by rcases (show s = 0 ∨ s = 1 by omega) with rfl | rfl <;> omega)]
theorem oth_hd1 {a : AS} {s : Nat} (hs : s < 2) (hE : tn (a 5 s) ≤ 8191) (hE' : tn (gHd1 a s 5 s) ≤ 8191) : oth a (gHd1 a s) s := by
  have e : gHd1 a s 5 s = gTakes (gHd0 a s) s (tn (a 5 s)) (hdF a s) 5 s := by
    unfold gHd1
    rw [gThrow_r _ _ 5 (by decide) (by decide)]
  rw [e] at hE'
  unfold gHd1
  exact oth_trans (oth_trans (oth_hd0 hs hE) (oth_takes hs)) (oth_thr hs hE')
theorem oth_hold {a : AS} {s n f : Nat} (hs : s < 2) (hn : n < 8192) : oth a (gHold a s n f) s := by
  refine ⟨fun i _ _ => by rw [gHold_r _ _ _ _ 0 (by omega) (by omega)], fun k hk => by rw [gHold_r _ _ _ _ k (by omega) (by omega)], fun i hi => ?_⟩
  rw [hold_18, if_neg]
  rcases (show s = 0 ∨ s = 1 by omega) with rfl | rfl <;> omega
theorem oth_ask {a : AS} {s : Nat} (hs : s < 2) : oth a (gAsk a s) s := by
  unfold gAsk
  split
  · exact oth_refl _ _
  · exact oth_trans (oth_row (fun i _ _ => by rw [up7_r _ _ _ _ 0 (by omega) (by omega)]) (fun k hk => up7_r _ _ _ _ k (by omega) (by omega))) (oth_snd hs)
theorem oth_pop {a : AS} {s : Nat} : oth a (gPop a s) s :=
  oth_row (fun i _ _ => by rw [gPop_r _ _ 0 (by omega) (by omega)]) (fun k hk => gPop_r _ _ k (by omega) (by omega))
theorem oth_cmA {a : AS} {s n f : Nat} (hs : s < 2) : oth a (gCmA a s n f) s := by
  refine ⟨fun i _ _ => by rw [gCmA_r _ _ _ _ 0 (by omega) (by omega)], fun k hk => ?_, fun i _ => by rw [gCmA_r _ _ _ _ 18 (by omega) (by omega)]⟩
  by_cases c10 : k = 10
  · subst c10
    rw [gCmA_10, if_neg (by omega)]
  · by_cases c3 : k = 3
    · subst c3
      rw [gCmA_3, if_neg (by omega)]
    · rw [gCmA_r _ _ _ _ k (by omega) (by omega)]
theorem oth_ans {a : AS} {s g : Nat} (hs : s < 2) : oth a (gAnswers a s g) s :=
  ⟨fun i _ _ => gAnswers_o _ _ _ _ _ (by omega) (by omega) (by omega) (by omega) (by omega), fun k hk => gAnswers_o _ _ _ _ _ (by omega) (by omega) (by omega) (by omega) (by omega), fun i _ => gAnswers_o _ _ _ _ _ (by omega) (by omega) (by omega) (by omega) (by omega)⟩
theorem oth_cmB {a : AS} {s n f : Nat} (hs : s < 2) : oth a (gCmB a s n f) s := by
  unfold gCmB
  split
  · exact oth_trans (oth_cmA hs) (oth_ans hs)
  · exact oth_cmA hs
