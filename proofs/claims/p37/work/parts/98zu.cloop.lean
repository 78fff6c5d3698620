/-! What is on the way to a side, when it works; all that come. -/
theorem snd_20 {a : AS} {s : Nat} {kd o1 o2 o3 o4 : Int32} (hs : s < 2) : gSends a s kd o1 o2 o3 o4 20 s = a 20 s := by
  have hk : ∀ i, gKeep a s kd o1 o2 o3 o4 20 i = a 20 i := fun i => gKeep_k _ _ _ _ _ _ _ _ _ (by omega) (by omega)
  unfold gSends
  split
  · exact hk s
  · unfold gGoes
    rw [up2_n _ _ (by omega), up2_n _ _ (by omega), up2_n _ _ (by omega)]
    exact hk s
theorem routes_20 {a : AS} {o : Nat} : gRoutes a o 20 1 = a 20 1 := by
  have h : gRouteL o 102 a 20 1 = a 20 1 := gRouteL_k o 102 a 20 1 (by omega) (by omega) (by omega) (by omega)
  unfold gRoutes
  split
  · exact h
  · exact (snd_20 (by decide)).trans h
theorem work_20 {a : AS} {q : Nat} : gWork a q 20 1 = a 20 1 := by
  have hu : ∀ (b : AS) (k i : Nat) (v : Int32), k ≠ 20 → b 20 1 = a 20 1 → up2 b k i v 20 1 = a 20 1 := fun b k i v hk h => (up2_n _ _ (by omega)).trans h
  have hr : ∀ (b : AS) (σ : Int32) (o : Nat) (x y : Int32), b 20 1 = a 20 1 → gRep b σ o x y 20 1 = a 20 1 := fun b σ o x y h => (snd_20 (by decide)).trans h
  have ht : ∀ (b : AS) (o : Nat), b 20 1 = a 20 1 → gRoutes b o 20 1 = a 20 1 := fun b o h => routes_20.trans h
  unfold gWork gBehind
  repeat' split
  · exact ht _ _ (hr _ _ _ _ _ (hu _ _ _ _ (by omega) (hu _ _ _ _ (by omega) (hu _ _ _ _ (by omega) (hu _ _ _ _ (by omega) (hu _ _ _ _ (by omega) rfl))))))
  · rfl
  · exact hr _ _ _ _ _ rfl
  · exact hr _ _ _ _ _ (hu _ _ _ _ (by omega) rfl)
  · exact ht _ _ (hr _ _ _ _ _ (hu _ _ _ _ (by omega) (hu _ _ _ _ (by omega) (hu _ _ _ _ (by omega) (hu _ _ _ _ (by omega) rfl)))))
theorem tkW_20 {a : AS} {s q : Nat} (hs : s < 2) : gTkW a s q 20 s = a 20 s := by
  unfold gTkW
  split
  · exact snd_20 hs
  · split
    · rename_i c
      subst c
      split
      · rw [gLearns_lo _ _ 20 (by omega)]
      · rfl
    · split
      · rfl
      · have e : s = 1 := by omega
        subst e
        exact work_20
theorem takes_20 {a : AS} {s n f : Nat} (hs : s < 2) : gTakes a s n f 20 s = a 20 s := by
  unfold gTakes
  split
  · exact up2_n _ _ (by omega)
  · exact (tkW_20 hs).trans (up2_n _ _ (by omega))
theorem hd1_20 {a : AS} {s : Nat} (hs : s < 2) : gHd1 a s 20 s = a 20 s := by
  unfold gHd1
  rw [gThrow_r _ _ 20 (by omega) (by omega), takes_20 hs, hd0_r _ _ 20 (by omega) (by omega)]
theorem hdL_20 {s : Nat} (hs : s < 2) : ∀ (k : Nat) (a : AS), gHdL s k a 20 s = a 20 s := by
  intro k
  induction k with
  | zero => exact fun a => rfl
  | succ k ih =>
    intro a
    show (if a 18 (8192 * s + tn (a 5 s)) ≤ nI 0 then a else gHdL s k (gHd1 a s)) 20 s = a 20 s
    split
    · rfl
    · rw [ih, hd1_20 hs]
theorem ask_20 {a : AS} {s : Nat} (hs : s < 2) : gAsk a s 20 s = a 20 s := by
  unfold gAsk
  split
  · rfl
  · rw [snd_20 hs, up7_r _ _ _ _ 20 (by omega) (by omega)]
theorem comes_20 {a : AS} {s n f : Nat} (hs : s < 2) : gComes a s n f 20 s = a 20 s := by
  have hB : gCmB a s n f 20 s = a 20 s := by
    unfold gCmB
    split
    · rw [gAnswers_o _ _ _ _ _ (by omega) (by omega) (by omega) (by omega) (by omega), gCmA_r _ _ _ _ 20 (by omega) (by omega)]
    · rw [gCmA_r _ _ _ _ 20 (by omega) (by omega)]
  unfold gComes gCmC
  split
  · rw [ask_20 hs, gHold_r _ _ _ _ 20 (by omega) (by omega), hB]
  · split
    · unfold gHeld
      rw [hdL_20 hs, gThrow_r _ _ 20 (by omega) (by omega), takes_20 hs, hB]
    · exact hB
theorem come1_20 {a : AS} {s : Nat} (hs : s < 2) (h1 : 1 ≤ tn (a 20 s)) : tn (gCome1 a s 20 s) + 1 = tn (a 20 s) := by
  by_cases hin : isIn a s
  · have e : gCome1 a s = gComes (gPop a s) s (cEn (wyE a s)) (cEf (wyE a s)) := if_pos hin
    rw [e, comes_20 hs]
    exact pop_20s h1
  · have e : gCome1 a s = gPop a s := if_neg hin
    rw [e]
    exact pop_20s h1
theorem CI_L {n : Nat → Nat} {l0 l1 K O s : Nat} {a0 : AS} (hn : sm8 n ≤ 512) (hO : n 4 ≤ 40) (hs : s < 2) : ∀ (d : Nat) (a : AS), d ≤ tn (a 20 s) → CI n l0 l1 K O s a0 a → CI n l0 l1 K O s a0 (gComeL s d a) ∧ tn (gComeL s d a 20 s) + d = tn (a 20 s) := by
  intro d
  induction d with
  | zero => exact fun a _ h => ⟨h, rfl⟩
  | succ d ih =>
    intro a hd h
    have e20 := come1_20 hs (show 1 ≤ tn (a 20 s) by omega)
    obtain ⟨t1, t2⟩ := ih (gCome1 a s) (by omega) (CI_step hn hO hs (by omega) h)
    exact ⟨t1, by
      show tn (gComeL s d (gCome1 a s) 20 s) + (d + 1) = _
      omega⟩
/-- a coming, whole: what o_come asks -/
theorem CI_ok {w : Nat} {n : Nat → Nat} {l0 l1 K O s d S : Nat} {a : AS} (hn : sm8 n ≤ 512) (hO : n 4 ≤ 40) (hs : s < 2) (hK : K ≤ 1000) (hw : 8192 < w) (hd : d ≤ tn (a 20 s)) (hS0 : a 4 (1 - s) = nI S) (hS2 : S ≤ 8190) (h : CI n l0 l1 K O s a a) (h0 : a 0 0 = nI 0) : ∃ (S : Nat) (P1 P2 : AS → Prop), S ≤ 8190 ∧ (∀ a, P1 a → wiOk a s S) ∧ (∀ a, P1 a → ¬ a 18 (8192 * s + tn (a 5 s)) ≤ nI 0 → P1 (gHd1 a s)) ∧ (∀ a, P2 a → wyOk a s) ∧ (∀ a, P2 a → isIn a s → f_X9_comes w (gPop a s) (nI s) (nI (wyE a s / 2 / 8192)) (nI (wyE a s / 2 % 8192)) = some (gComes (gPop a s) s (wyE a s / 2 / 8192) (wyE a s / 2 % 8192), 0)) ∧ (∀ i, i < d → coOk (gComeL s i a) s S P1 ∧ P2 (gComeL s i a)) ∧ gComeL s d a 0 0 = nI 0 := by
  refine ⟨S, PL n l0 l1 K O s a, fun b => CI n l0 l1 K O s a b ∧ 1 ≤ tn (b 20 s), hS2, fun b hb => MM_wi hn hO hs hK hS0 (by omega) hb.1 hb.2, fun b hb hh => PL_1 hn hO hs hb hh, fun b hb => (SI_wy hs hb.2 hb.1.1).1, fun b hb hin => CI_comes hn hO hs hw hb.2 hin hb.1, fun i hi => ?_, ?_⟩
  · obtain ⟨t1, t2⟩ := CI_L hn hO hs i a (by omega) h
    exact ⟨CI_co hn hO hs hK (by omega) hS0 (by omega) t1, t1, by omega⟩
  · obtain ⟨t1, t2⟩ := CI_L hn hO hs d a hd h
    exact (t1.2.2.2.1.1 0 (by decide) (by decide)).trans h0
