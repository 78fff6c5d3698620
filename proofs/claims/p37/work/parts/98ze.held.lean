/-! Taken, and what is held in its turn. -/
theorem gTakes_5 {a : AS} {s c : Nat} : gTakes a s (cEn c) (cEf c) 5 s = nI (cNx c) := by
  unfold gTakes cNx
  by_cases cf : 0 < cEf c
  · rw [if_pos cf, up2_s]
  · rw [if_neg cf, gTkW_l _ _ _ _ _ (Or.inr (Or.inl rfl)), up2_s, if_pos (by omega)]
theorem SIp_hdP {n : Nat → Nat} {l0 l1 s c : Nat} {a : AS} (hn : sm8 n ≤ 512) (hO : n 4 ≤ 40) (hs : s < 2) (hc : cEn c = tn (a 5 s)) (hw : cEf c = 0 → wrk a s (cEn c)) (h : SIp n (1 + s) 0 l0 l1 a s c 0) : hdP n l0 l1 s (gThrow (gTakes a s (cEn c) (cEf c)) s) := by
  have g := SIp_takes hn hO hs rfl hc hw h
  obtain ⟨-, g2, g3⟩ := SIp_take hs hc h
  obtain ⟨t1, t2⟩ := SI_thr hs g
  have e5 : gThrow (gTakes a s (cEn c) (cEf c)) s 5 = gTakes a s (cEn c) (cEf c) 5 := gThrow_r _ _ 5 (by decide) (by decide)
  have e5' : tn (gTakes a s (cEn c) (cEf c) 5 s) = cNx c := by rw [gTakes_5, tnI (by omega)]
  refine ⟨t1, ?_, ?_, fun i hi => ?_⟩
  · rw [gThrow_r _ _ 3 (by decide) (by decide), gTakes_l _ _ _ _ _ _ (by unfold lin; omega) (by decide)]
    exact h.2.1
  · rw [gThrow_r _ _ 7 (by decide) (by decide), gTakes_l _ _ _ _ _ _ (by unfold lin; omega) (by decide), e5, e5']
    exact g2
  · rw [e5]
    exact t2 i hi
theorem SIp_held {n : Nat → Nat} {l0 l1 s c : Nat} {a : AS} {M : AS → Prop} (hn : sm8 n ≤ 512) (hO : n 4 ≤ 40) (hs : s < 2) (hM : ∀ a, hdP n l0 l1 s a → M a → hN a s (tn (a 5 s)) ≠ 0 → M (gHd1 a s)) (hMw : ∀ a, hdP n l0 l1 s a → M a → hN a s (tn (a 5 s)) = 1 → wrk a s (tn (a 5 s))) (hc : cEn c = tn (a 5 s)) (hw : cEf c = 0 → wrk a s (cEn c)) (h0 : M (gThrow (gTakes a s (cEn c) (cEf c)) s)) (h : SIp n (1 + s) 0 l0 l1 a s c 0) : hdP n l0 l1 s (gHeld (gTakes a s (cEn c) (cEf c)) s) ∧ M (gHeld (gTakes a s (cEn c) (cEf c)) s) :=
  hdP_L hn hO hs hM hMw 8193 _ (SIp_hdP hn hO hs hc hw h) h0
