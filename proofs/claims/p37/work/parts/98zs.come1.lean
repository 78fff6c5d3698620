/-! One comes: all that is kept, and what both sides want of it. -/
theorem SIp_rm {n : Nat → Nat} {fl rem l0 l1 s c p : Nat} {a : AS} (hn : sm8 n ≤ 512) (hO : n 4 ≤ 40) (h : SIp n fl rem l0 l1 a s c p) : rm3 a := by
  obtain ⟨hv, h3, h10, hup, gL, gb, gt, gG, gz, dq, dk, x1, x2, x3, x4, x5, hp⟩ := h
  obtain ⟨p1, p2, p3⟩ := pot_lg hn hO hp
  intro t ht
  obtain ⟨S, e, _⟩ := (hv.2.2 t ht).1
  refine ⟨S, e, ?_⟩
  unfold lgN at p1 p2
  rcases (show t = 0 ∨ t = 1 by omega) with rfl | rfl
  · rw [e, tnI (by omega)] at p1; omega
  · rw [e, tnI (by omega)] at p2; omega
/-- the numbers of what comes -/
theorem SIp_n {n : Nat → Nat} {fl rem l0 l1 s c p : Nat} {a : AS} (h : SIp n fl rem l0 l1 a s c p) : 1 ≤ tn (a 5 s) ∧ 1 ≤ cEn c ∧ cEn c ≤ lgN a (1 - s) ∧ cNx c ≤ lgN a (1 - s) + 1 ∧ cEf c ≠ 1 := by
  obtain ⟨hv, h3, h10, hup, gL, gb, gt, gG, gz, dq, dk, x1, x2, x3, x4, x5, hp⟩ := h
  exact ⟨dk.1, x3⟩
/-- the first entry -/
theorem SI_wy {n : Nat → Nat} {fl rem l0 l1 : Nat} {a : AS} {s : Nat} (hs : s < 2) (h1 : 1 ≤ tn (a 20 s)) (h : SI n fl rem l0 l1 a) : wyOk a s ∧ 1 ≤ cEn (wyE a s) ∧ cEn (wyE a s) ≤ lgN a (1 - s) := by
  obtain ⟨hv, gL, gb, gt, gG, gz, hD, hp⟩ := h
  obtain ⟨q1, q2⟩ := QL_pop hs h1
  have hq := DI_q (hD s hs) (wyE a s) (by rw [q1]; exact List.mem_cons_self ..)
  obtain ⟨-, -, -, -, ⟨H, e19, hH⟩, ⟨c, e20, hc⟩, -⟩ := hv.2.2 s hs
  obtain ⟨⟨S, e4, hS⟩, -⟩ := hv.2.2 (1 - s) (by omega)
  have hl : lgN a (1 - s) = S := by unfold lgN; rw [e4, tnI (by omega)]
  have hc1 : tn (a 20 s) = c := by rw [e20, tnI (by omega)]
  refine ⟨⟨H, c, wyE a s, e19, hH, e20, by omega, by omega, ?_, ?_⟩, hq⟩
  · have hne : ¬ a 21 (pl a s 0) < 0 := fun hlt => by
      have h0 : wyE a s = 0 := by
        show (a 21 (pl a s 0)).toNatClampNeg = 0
        unfold Int32.toNatClampNeg
        rw [Int32.lt_iff_toInt_lt] at hlt
        have e0 : (0 : Int32).toInt = 0 := rfl
        omega
      have := hq.1
      unfold cEn at this
      omega
    exact (nIs hne).symm
  · have := hq.2
    unfold cEn at this
    omega
/-- what comes, ahead of its number; E, R: executions and ranks -/
theorem cm_in {n : Nat → Nat} {l0 l1 K O E R : Nat} {a : AS} {s : Nat} (hn : sm8 n ≤ 512) (hO : n 4 ≤ 40) (hs : s < 2) (h1 : 1 ≤ tn (a 20 s)) (hin : isIn a s) (h : SI n (1 + s) 0 l0 l1 a) (hm : MI K O E R a) :
    SIp n (1 + s) 0 l0 l1 (gCmB (gPop a s) s (cEn (wyE a s)) (cEf (wyE a s))) s (wyE a s) 0 ∧ MI K O E R (gCmB (gPop a s) s (cEn (wyE a s)) (cEf (wyE a s))) ∧ rsOk (gPop a s) s (cEn (wyE a s)) (cEf (wyE a s)) ∧ cmOk (gPop a s) s (cEn (wyE a s)) (cEf (wyE a s)) := by
  have hp := SI_in hs rfl h1 hin h
  obtain ⟨w1, w2, w3⟩ := SI_wy hs h1 h
  have hmp : MI K O E R (gPop a s) := MI_pop hm
  have hma : MI K O E R (gCmA (gPop a s) s (cEn (wyE a s)) (cEf (wyE a s))) := MI_cmA hmp
  generalize hc : wyE a s = c at hp w2 w3 hma ⊢
  have hv := h.1
  have hvp := sv_pop h1 hv
  have r : ∀ k, k ≠ 10 → k ≠ 3 → gCmA (gPop a s) s (cEn c) (cEf c) k = gPop a s k := fun k w1 w2 => gCmA_r _ _ _ _ k w1 w2
  have rp : ∀ k, k ≠ 19 → k ≠ 20 → gPop a s k = a k := fun k w1 w2 => gPop_r _ _ k w1 w2
  have hv8 : cEf c ≤ 8191 := by unfold cEf; omega
  obtain ⟨⟨S, e4, hS⟩, -⟩ := hv.2.2 (1 - s) (by omega)
  have hl : lgN a (1 - s) = S := by unfold lgN; rw [e4, tnI (by omega)]
  obtain ⟨⟨S', e4', hS'⟩, -⟩ := hv.2.2 s hs
  obtain ⟨-, -, -, -, ⟨H, e19, hH⟩, ⟨k, e20, hk⟩, -⟩ := hvp.2.2 (1 - s) (by omega)
  have hn8 : cEn c ≤ 8190 := by omega
  obtain ⟨kd, k1, k2, k3, k4, k5⟩ := sv_kd hv (show 1 - s < 2 by omega) w2 w3
  obtain ⟨eO, eE, hO40, hE100, -⟩ := MI_O hm
  have hoi := MI_ordIn hs hvp hmp
  have hoo : ordOk (gPop a s) s := fun n n1 n2 n3 => by
    obtain ⟨o, o1, o2⟩ := hoi n n1 n2 n3
    rw [rp 0 (by decide) (by decide), eO] at o2
    exact ⟨o, o1, by omega⟩
  by_cases c3 : cEf c = 0 ∧ gPop a s 11 (8192 * (1 - s) + cEn c) = nI 3
  · have ekd : kd = 3 := (nI_eq (by omega) (by omega)).mp (k1.symm.trans ((by rw [rp 11 (by decide) (by decide)] at c3; exact c3.2)))
    have hkF : kF a (1 - s) (cEn c) = 3 := by unfold kF; rw [k1, tnI (by omega), ekd]
    rw [if_pos ⟨c3.1, hkF⟩] at hp
    obtain ⟨g, g1, g2⟩ := (MI_mm1 hm (1 - s) (cEn c) (by omega) w2 w3).2.1 (by rw [k1, ekd])
    have eg : tn (gPop a s 14 (8192 * (1 - s) + cEn c)) = g := by rw [rp 14 (by decide) (by decide), g2, tnI (by omega)]
    obtain ⟨a1, a2⟩ := SIp_ans (g := g) hs hn hO hp
    have eB : gCmB (gPop a s) s (cEn c) (cEf c) = gAnswers (gCmA (gPop a s) s (cEn c) (cEf c)) s g := by
      unfold gCmB
      rw [if_pos c3, eg]
    rw [eB]
    refine ⟨a2, MI_ans hs hp.1 hma, fun _ _ => ⟨g, k, by rw [rp 14 (by decide) (by decide)]; exact g2, g1, e20, ?_, hoi⟩, ⟨hn8, hv8, fun _ _ => ⟨g, H, k, by rw [rp 14 (by decide) (by decide)]; exact g2, g1, ?_, ?_, ⟨e19, hH, e20⟩, by omega, hoo⟩⟩⟩
    · rw [r 4 (by decide) (by decide), r 20 (by decide) (by decide), e20, tnI (by omega)] at a1
      omega
    · rw [rp 4 (by decide) (by decide), e4', tnI (by omega)]; exact hS'
    · rw [rp 4 (by decide) (by decide), e4']
      exact nIb S' (by omega)
  · have hkF : ¬ (cEf c = 0 ∧ kF a (1 - s) (cEn c) = 3) := fun hh => c3 ⟨hh.1, by
      have := hh.2
      unfold kF at this
      rw [k1, tnI (by omega)] at this
      rw [rp 11 (by decide) (by decide), k1, this]⟩
    rw [if_neg hkF] at hp
    have eB : gCmB (gPop a s) s (cEn c) (cEf c) = gCmA (gPop a s) s (cEn c) (cEf c) := by
      unfold gCmB
      rw [if_neg c3]
    rw [eB]
    exact ⟨hp, hma, fun h1 h2 => absurd ⟨h1, h2⟩ c3, hn8, hv8, fun h1 h2 => absurd ⟨h1, h2⟩ c3⟩
theorem cmB_r (a : AS) (s n f k : Nat) (h1 : k ≠ 10) (h2 : k ≠ 3) (h3 : k ≠ 29) (h4 : k ≠ 21) (h5 : k ≠ 20) (h6 : k ≠ 9) (h7 : k ≠ 13) : gCmB a s n f k = a k := by
  unfold gCmB
  split
  · rw [gAnswers_r _ _ _ k h3 h4 h5 h6 h7, gCmA_r _ _ _ _ k h1 h2]
  · exact gCmA_r _ _ _ _ k h1 h2
