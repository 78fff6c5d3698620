variable {Hh : Nat → Nat}
def upB (b : AS) (z : Bool) : AS := if z then up2 (up2 (up2 (up2 (up2 (up2 (up2 b 1 1 1) 1 4 0) 1 6 1) 1 14 (b 1 0)) 1 5 0) 1 7 1) 1 15 (b 1 0) else up2 (up2 (up2 b 1 1 1) 1 14 (b 1 0)) 1 15 (b 1 0)
noncomputable def lg2 (w : Nat) (b : AS) : Option (AS × Int32) := (f_L_send w b (0 : Int32) (0 : Int32) (0 : Int32) (0 : Int32) (0 : Int32) (0 : Int32)).bind (fun v3 => (f_L_send w v3.1 (1 : Int32) (0 : Int32) (0 : Int32) (0 : Int32) (0 : Int32) (0 : Int32)).bind (fun v4 => some (v4.1, (0 : Int32))))
theorem f_up {w : Nat} {b : AS} {z : Bool} (hw : 100 < w) : f_L_up w b (if z then 1 else 0) = lg2 w (upB b z) := by
  obtain ⟨m, rfl⟩ : ∃ m, w = m + 3 := ⟨w - 3, by omega⟩
  have k0 : ∀ (x : AS) v, up2 x 1 14 v 1 0 = x 1 0 := fun x v => up2_n _ _ (by decide)
  cases z with
  | false =>
    show b_L_up_7 (l_L_up_7 (m + 3) (m + 2)) (m + 3) (up2 b 1 1 1) (0 : Int32) (0 : Int32) = _
    unfold b_L_up_7
    rw [if_neg (by decide), if_pos rfl]
    show b_L_up_7 (l_L_up_7 (m + 3) (m + 1)) (m + 3) (up2 (up2 b 1 1 1) 1 14 (b 1 0)) (0 : Int32) (1 : Int32) = _
    unfold b_L_up_7
    rw [if_neg (by decide), if_pos rfl]
    show b_L_up_7 (l_L_up_7 (m + 3) m) (m + 3) (up2 (up2 (up2 b 1 1 1) 1 14 (b 1 0)) 1 15 (b 1 0)) (0 : Int32) (2 : Int32) = _
    unfold b_L_up_7
    rw [if_pos (by decide)]
    rfl
  | true =>
    show b_L_up_7 (l_L_up_7 (m + 3) (m + 2)) (m + 3) (up2 b 1 1 1) (1 : Int32) (0 : Int32) = _
    unfold b_L_up_7
    rw [if_neg (by decide), if_neg (by decide)]
    show b_L_up_7 (l_L_up_7 (m + 3) (m + 1)) (m + 3) (up2 (up2 (up2 (up2 b 1 1 1) 1 4 0) 1 6 1) 1 14 (b 1 0)) (1 : Int32) (1 : Int32) = _
    unfold b_L_up_7
    rw [if_neg (by decide), if_neg (by decide)]
    show b_L_up_7 (l_L_up_7 (m + 3) m) (m + 3) (up2 (up2 (up2 (up2 (up2 (up2 (up2 b 1 1 1) 1 4 0) 1 6 1) 1 14 (b 1 0)) 1 5 0) 1 7 1) 1 15 (b 1 0)) (1 : Int32) (2 : Int32) = _
    unfold b_L_up_7
    rw [if_pos (by decide)]
    rfl
theorem upB_k (b : AS) (z : Bool) {k : Nat} (h : k ≠ 1) : upB b z k = b k := by
  unfold upB
  cases z
  · simp only [Bool.false_eq_true, if_false]
    rw [up2_k _ _ h, up2_k _ _ h, up2_k _ _ h]
  · simp only [if_true]
    rw [up2_k _ _ h, up2_k _ _ h, up2_k _ _ h, up2_k _ _ h, up2_k _ _ h, up2_k _ _ h, up2_k _ _ h]
theorem lr_up {b a : AS} {z : Bool} (h : LR Hh b a) (hup : a 0 2 = nI 0) : LR Hh (upB b z) (up1 (gCon0 a z) 9 (a 9)) := by
  obtain ⟨l0, l1, l2, l3, l4, l5, l6, l7, l8⟩ := h
  have er : ∀ k, k ≠ 0 → k ≠ 4 → k ≠ 5 → k ≠ 10 → up1 (gCon0 a z) 9 (a 9) k = a k := fun k k0 k4 k5 k10 => by
    by_cases e : k = 9
    · subst e; rw [up1_s]
    · rw [up1_n _ _ e, gCon0_r a z k k0 k4 k5 e k10]
  have e0 : ∀ i, i ≠ 0 → up1 (gCon0 a z) 9 (a 9) 0 i = if i = 2 then nI 1 else a 0 i := fun i hi => by rw [up1_n _ _ (by decide), gCon0_0 a z i hi]
  have ev : ∀ s, s < 2 → up1 (gCon0 a z) 9 (a 9) 4 s = (if z then nI 0 else a 4 s) ∧ up1 (gCon0 a z) 9 (a 9) 5 s = (if z then nI 1 else a 5 s) ∧ up1 (gCon0 a z) 9 (a 9) 10 s = a 0 1 := fun s hs => by
    obtain ⟨v1, v2, v3, v4⟩ := gCon0_v a z s hs
    rw [up1_n _ _ (by decide), up1_n _ _ (by decide), up1_n _ _ (by decide)]
    exact ⟨v1, v2, v4⟩
  generalize up1 (gCon0 a z) 9 (a 9) = a' at *
  have bk : ∀ k, k ≠ 1 → upB b z k = b k := fun k hk => upB_k b z hk
  unfold LR
  rw [er 3 (by decide) (by decide) (by decide) (by decide), er 7 (by decide) (by decide) (by decide) (by decide), er 8 (by decide) (by decide) (by decide) (by decide), er 9 (by decide) (by decide) (by decide) (by decide), er 11 (by decide) (by decide) (by decide) (by decide), er 12 (by decide) (by decide) (by decide) (by decide), er 13 (by decide) (by decide) (by decide) (by decide), er 14 (by decide) (by decide) (by decide) (by decide), er 15 (by decide) (by decide) (by decide) (by decide), er 16 (by decide) (by decide) (by decide) (by decide), er 17 (by decide) (by decide) (by decide) (by decide), er 18 (by decide) (by decide) (by decide) (by decide), er 19 (by decide) (by decide) (by decide) (by decide), er 20 (by decide) (by decide) (by decide) (by decide), er 21 (by decide) (by decide) (by decide) (by decide), er 25 (by decide) (by decide) (by decide) (by decide), er 26 (by decide) (by decide) (by decide) (by decide), er 27 (by decide) (by decide) (by decide) (by decide), er 28 (by decide) (by decide) (by decide) (by decide), er 23 (by decide) (by decide) (by decide) (by decide), er 24 (by decide) (by decide) (by decide) (by decide), er 29 (by decide) (by decide) (by decide) (by decide), er 30 (by decide) (by decide) (by decide) (by decide), er 31 (by decide) (by decide) (by decide) (by decide), er 36 (by decide) (by decide) (by decide) (by decide), er 37 (by decide) (by decide) (by decide) (by decide), er 38 (by decide) (by decide) (by decide) (by decide), er 39 (by decide) (by decide) (by decide) (by decide), er 40 (by decide) (by decide) (by decide) (by decide), er 41 (by decide) (by decide) (by decide) (by decide), er 42 (by decide) (by decide) (by decide) (by decide), er 43 (by decide) (by decide) (by decide) (by decide), er 33 (by decide) (by decide) (by decide) (by decide), er 34 (by decide) (by decide) (by decide) (by decide), e0 1 (by decide), e0 22 (by decide), e0 35 (by decide), if_neg (by decide), if_neg (by decide), if_neg (by decide), bk 8 (by decide), bk 9 (by decide), bk 10 (by decide), bk 11 (by decide), bk 12 (by decide), bk 13 (by decide), bk 14 (by decide)]
  have y := l1.2.2.2.2.2.2
  refine ⟨by rw [e0 44 (by decide), if_neg (by decide)]; exact l0, ⟨?_, ?_, ?_, ?_, ?_, ?_, fun s hs => ?_⟩, fun s hs => ?_, fun s hs => ?_, fun s hs => ?_, l5, l6, l7, l8⟩
  · rw [e0 1 (by decide), if_neg (by decide), ← l1.1]; cases z <;> simp [upB, up2, up1]
  · rw [e0 2 (by decide), if_pos rfl]; cases z <;> simp [upB, up2, up1] <;> rfl
  · rw [e0 22 (by decide), if_neg (by decide), ← l1.2.2.1]; cases z <;> simp [upB, up2, up1]
  · rw [e0 35 (by decide), if_neg (by decide), ← l1.2.2.2.1]; cases z <;> simp [upB, up2, up1]
  · rw [e0 44 (by decide), if_neg (by decide), ← l1.2.2.2.2.1]; cases z <;> simp [upB, up2, up1]
  · rw [e0 32 (by decide), if_neg (by decide), ← l1.2.2.2.2.2.1]; cases z <;> simp [upB, up2, up1]
  · obtain ⟨v1, v2, v3⟩ := ev s hs
    obtain ⟨y1, y2, y3, y4, y5, y6, y7, y8⟩ := y s hs
    rw [v1, v2, v3, ← y1, ← y2, ← y3, ← y4, ← y5, ← y6, ← y8, ← l1.1]
    rcases (show s = 0 ∨ s = 1 by omega) with rfl | rfl <;> cases z <;> simp [upB, up2, up1] <;> exact ⟨rfl, rfl⟩
  · rw [bk _ (by omega)]
    exact l2 s hs
  · rw [bk _ (by omega), (ev s hs).1]
    cases z with
    | false => exact l3 s hs
    | true => exact ⟨0, rfl, by decide, fun n n1 n2 => by omega⟩
  · rw [bk _ (by omega)]
    exact l4 s hs
theorem gS_4 (A : AS) (s : Nat) (kd o1 o2 o3 o4 : Int32) {t : Nat} (h : t ≠ s) : gSends A s kd o1 o2 o3 o4 4 t = A 4 t := by
  have e : gKeep A s kd o1 o2 o3 o4 4 t = A 4 t := by
    unfold gKeep
    rw [up2_k _ _ (by decide), up2_k _ _ (by decide), up2_k _ _ (by decide), up2_k _ _ (by decide), up2_k _ _ (by decide), up2_k _ _ (by decide), up2_k _ _ (by decide), up2_n _ _ (by omega)]
  unfold gSends
  split
  · exact e
  · unfold gGoes
    rw [up2_k _ _ (by decide), up2_k _ _ (by decide), up2_k _ _ (by decide)]
    exact e
theorem gK_20 (A : AS) (s : Nat) (kd o1 o2 o3 o4 : Int32) : gKeep A s kd o1 o2 o3 o4 20 = A 20 := by
  unfold gKeep
  rw [up2_k _ _ (by decide), up2_k _ _ (by decide), up2_k _ _ (by decide), up2_k _ _ (by decide), up2_k _ _ (by decide), up2_k _ _ (by decide), up2_k _ _ (by decide), up2_k _ _ (by decide)]
theorem gS_20 (A : AS) (s : Nat) (kd o1 o2 o3 o4 : Int32) {t : Nat} (h : t ≠ 1 - s) : gSends A s kd o1 o2 o3 o4 20 t = A 20 t := by
  unfold gSends
  split
  · rw [gK_20]
  · unfold gGoes
    rw [up2_k _ _ (by decide), up2_n _ _ (by omega), up2_k _ _ (by decide), gK_20]
/-- connect: on both sides -/
theorem lk_up {w : Nat} {z : Bool} {b a : AS} (h : LR Hh b a) (hup : a 0 2 = nI 0) (hw : 100 < w) (h4 : ∀ s, s < 2 → z = false → tn (a 4 s) + 1 ≤ 63) (h20 : ∀ s, s < 2 → tn (a 20 s) + 1 ≤ 240) : ∃ b', f_L_up w b (if z then 1 else 0) = some (b', 0) ∧ LR Hh b' (gConnect a z) := by
  have hL := lr_up (z := z) h hup
  have e02 : up1 (gCon0 a z) 9 (a 9) 0 2 = nI 1 := by rw [up1_n _ _ (by decide), gCon0_0 a z 2 (by decide), if_pos rfl]
  have e20 : up1 (gCon0 a z) 9 (a 9) 20 = a 20 := by rw [up1_n _ _ (by decide), gCon0_r a z 20 (by decide) (by decide) (by decide) (by decide) (by decide)]
  have e4 : ∀ s, s < 2 → tn (up1 (gCon0 a z) 9 (a 9) 4 s) + 1 ≤ 63 := fun s hs => by
    rw [up1_n _ _ (by decide), (gCon0_v a z s hs).1]
    cases z with
    | false => exact h4 s hs rfl
    | true => show tn (nI 0) + 1 ≤ 63; decide
  have hg : gConnect a z = gSends (gSends (up1 (gCon0 a z) 9 (a 9)) 0 (nI 0) (nI 0) (nI 0) (nI 0) (nI 0)) 1 (nI 0) (nI 0) (nI 0) (nI 0) (nI 0) := by
    unfold gConnect
    refine (gCon_9 (gCon0 a z) (a 9) ?_ (fun i hi => ?_)).symm
    · rw [gCon0_0 a z 2 (by decide), if_pos rfl]; decide
    · unfold gCon0 gCon1
      rw [up2_k _ _ (by decide), up2_k _ _ (by decide), up2_n _ _ (by omega), up2_k _ _ (by decide), up2_k _ _ (by decide), up2_k _ _ (by decide), up2_n _ _ (by omega), up2_k _ _ (by decide), up2_k _ _ (by decide), up2_k _ _ (by decide)]
  rw [f_up hw, hg]
  generalize up1 (gCon0 a z) 9 (a 9) = A at *
  obtain ⟨b1, s1, hL1⟩ := lk_send (w := w) (s := 0) (kd := 0) (o1 := 0) (o2 := 0) (o3 := 0) (o4 := 0) hL (by decide) (Or.inr e02) (e4 0 (by decide)) (by rw [e20]; exact h20 1 (by decide)) (by decide) (by decide) (by decide) (by decide) (by decide)
  obtain ⟨b2, s2, hL2⟩ := lk_send (w := w) (s := 1) (kd := 0) (o1 := 0) (o2 := 0) (o3 := 0) (o4 := 0) hL1 (by decide) (Or.inr (by rw [gSnd0]; exact e02)) (by rw [gS_4 _ _ _ _ _ _ _ (by decide)]; exact e4 1 (by decide)) (by rw [gS_20 _ _ _ _ _ _ _ (by decide), e20]; exact h20 0 (by decide)) (by decide) (by decide) (by decide) (by decide) (by decide)
  refine ⟨b2, ?_, hL2⟩
  unfold lg2
  rw [show (0 : Int32) = nI 0 from rfl, show (1 : Int32) = nI 1 from rfl, s1]
  show (f_L_send w b1 (nI 1) (nI 0) (nI 0) (nI 0) (nI 0) (nI 0)).bind _ = _
  rw [s2]
  rfl
