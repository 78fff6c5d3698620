/-! What is held in its turn: all that is kept. -/
theorem hd0_r (a : AS) (s k : Nat) (h6 : k ≠ 6) (h18 : k ≠ 18) : gHd0 a s k = a k := by
  unfold gHd0
  rw [up2_k _ _ h6, up2_k _ _ h18]
theorem sv_hd0 {a : AS} {s : Nat} (h : sv a) : sv (gHd0 a s) := by
  obtain ⟨h1, h2, h3⟩ := h
  have r : ∀ k, k ≠ 6 → k ≠ 18 → gHd0 a s k = a k := fun k w1 w2 => hd0_r a s k w1 w2
  unfold sv
  rw [r 0 (by decide) (by decide)]
  refine ⟨h1, h2, fun t ht => ?_⟩
  obtain ⟨v1, v2, v3, v4, v5, v6, v7, v8, v9, v10, v11⟩ := h3 t ht
  unfold svS
  rw [r 4 (by decide) (by decide), r 5 (by decide) (by decide), r 7 (by decide) (by decide), r 3 (by decide) (by decide), r 0 (by decide) (by decide), r 11 (by decide) (by decide), r 19 (by decide) (by decide), r 20 (by decide) (by decide)]
  refine ⟨v1, v2, v3, fun k hk => ?_, v5, v6, v7, v8, v9, v10, fun n hn => ?_⟩
  · rw [r k (by omega) (by omega)]
    exact v4 k hk
  · rw [hd0_18]
    split
    · exact ⟨0, rfl, by omega, by omega⟩
    · exact v11 n hn
/-- what the turn's loop keeps beside what is counted; a0: the state ahead of the call -/
def MM (K O s : Nat) (a0 a : AS) : Prop := (∃ E R : Nat, MI K O E R a) ∧ oth a0 a s ∧ tn (a 10 s) = tn (a 0 1)
theorem rm3_of {a b : AS} (h : b 4 = a 4) (hr : rm3 a) : rm3 b := fun s hs => by rw [h]; exact hr s hs
theorem hdP_f {n : Nat → Nat} {l0 l1 s : Nat} {a : AS} (hs : s < 2) (h : hdP n l0 l1 s a) (hh : hN a s (tn (a 5 s)) ≠ 0) : 1 ≤ tn (a 5 s) ∧ tn (a 5 s) ≤ lgN a (1 - s) ∧ hx (hN a s (tn (a 5 s))) (tn (a 5 s)) ≤ 8191 ∧ SI n (1 + s) 0 (l0 + pay0 a s (tn (a 5 s))) (l1 + pay1 a s (tn (a 5 s))) (up2 (gHd0 a s) 5 s (nI (hx (hN a s (tn (a 5 s))) (tn (a 5 s))))) := by
  obtain ⟨h1, hon, hA, hb⟩ := h
  obtain ⟨g1, g2, g3⟩ := SI_unh hs hh hA hon h1
  obtain ⟨-, gL, gb, gt, gG, gz, hD, hp⟩ := h1
  exact ⟨(hD s hs).2.1.1, g3, g2, g1⟩
theorem hN_v {a : AS} {s : Nat} (hv : sv a) (hs : s < 2) : ∃ v : Nat, a 18 (8192 * s + tn (a 5 s)) = nI v ∧ (v ≤ 1 ∨ 4 ≤ v) ∧ v ≤ 8193 ∧ hN a s (tn (a 5 s)) = v ∧ tn (a 5 s) ≤ 8191 := by
  obtain ⟨-, ⟨E, e5, hE⟩, -, -, -, -, -, -, -, -, v11⟩ := hv.2.2 s hs
  have eE : tn (a 5 s) = E := by rw [e5, tnI (by omega)]
  rw [eE]
  obtain ⟨v, ev, hv1, hv2⟩ := v11 E (by omega)
  refine ⟨v, ev, hv1, hv2, ?_, hE⟩
  unfold hN
  rw [if_pos (by omega), ev, tnI (by omega)]
theorem MM_1 {n : Nat → Nat} {l0 l1 K O s : Nat} {a0 a : AS} (hn : sm8 n ≤ 512) (hO : n 4 ≤ 40) (hs : s < 2) (h : hdP n l0 l1 s a) (hm : MM K O s a0 a) (hh : hN a s (tn (a 5 s)) ≠ 0) : MM K O s a0 (gHd1 a s) := by
  obtain ⟨⟨E, R, m⟩, ho, h10⟩ := hm
  obtain ⟨f1, f2, f3, f4⟩ := hdP_f hs h hh
  have hv := h.1.1
  have hrm := SI_rm hn hO h.1
  obtain ⟨v, ev, hv1, hv2, eh, h8⟩ := hN_v hv hs
  have r : ∀ k, k ≠ 6 → k ≠ 18 → gHd0 a s k = a k := fun k w1 w2 => hd0_r a s k w1 w2
  have e5 : gHd1 a s 5 s = nI (hx (hN a s (tn (a 5 s))) (tn (a 5 s))) := gHd1_5 (hv.2.2 s hs) hh
  refine ⟨?_, oth_trans ho (oth_hd1 hs h8 (by rw [e5, tnI (by omega)]; exact f3)), ?_⟩
  · have hf : hdF a s ≤ 8191 := by
      unfold hdF
      rw [ev]
      split
      · omega
      · rw [tnI (by omega)]; omega
    obtain ⟨E', R', t⟩ := MI_takes (c := gHd0 a s) (n := tn (a 5 s)) (f := hdF a s) hs (by rw [r 5 (by decide) (by decide)]) f1 (by rw [r 4 (by decide) (by decide)]; exact f2) hf (sv_hd0 hv) (rm3_of (r 4 (by decide) (by decide)) hrm) (MI_hd0 m)
    exact ⟨E', R', MI_thr t⟩
  · rw [gHd1_l a s 10 s (by unfold lin; omega) (by decide) (by decide) (by decide), gHd1_l a s 0 1 (by unfold lin; omega) (by decide) (by decide) (by decide)]
    exact h10
theorem MM_wrk {n : Nat → Nat} {l0 l1 K O s : Nat} {a0 a : AS} (hs : s < 2) (h : hdP n l0 l1 s a) (hm : MM K O s a0 a) (hh : hN a s (tn (a 5 s)) = 1) : wrk a s (tn (a 5 s)) := by
  obtain ⟨⟨E, R, m⟩, -⟩ := hm
  obtain ⟨f1, f2, -⟩ := hdP_f hs h (by omega)
  exact MI_wrk hs f1 f2 h.1.1 m
theorem hx_1 {v n : Nat} (h : v ≤ 1) : hx v n = n + 1 := if_pos h
/-- what the class's loop wants -/
theorem MM_wi {n : Nat → Nat} {l0 l1 K O s S : Nat} {a0 a : AS} (hn : sm8 n ≤ 512) (hO : n 4 ≤ 40) (hs : s < 2) (hK : K ≤ 1000) (hS : a0 4 (1 - s) = nI S) (hS2 : S < 2 ^ 30) (h : hdP n l0 l1 s a) (hm : MM K O s a0 a) : wiOk a s S := by
  obtain ⟨⟨E, R, m⟩, ho, h10⟩ := hm
  refine hdP_wi hs h ((ho.2.1 4 (by omega)).trans hS) hS2 (fun hh => ?_)
  obtain ⟨f1, f2, f3, f4⟩ := hdP_f hs h (by omega)
  rw [hh, hx_1 (by omega)] at f4 f3
  have r : ∀ k, k ≠ 6 → k ≠ 18 → gHd0 a s k = a k := fun k w1 w2 => hd0_r a s k w1 w2
  have m' : MI K O E R (up2 (gHd0 a s) 5 s (nI (tn (a 5 s) + 1))) := MI_5 f3 (by rw [r 5 (by decide) (by decide)]; omega) (MI_hd0 m)
  exact MI_tw hK hs f1 (by rw [up2_n _ _ (by omega), r 4 (by decide) (by decide)]; exact f2) f4.1 (fun t k ht hk => SI_roomS f4 hn hO ht (by omega)) m'
/-- what the reference's loop wants -/
theorem MM_hd {n : Nat → Nat} {l0 l1 K O s : Nat} {a0 a : AS} (hn : sm8 n ≤ 512) (hO : n 4 ≤ 40) (hs : s < 2) (h : hdP n l0 l1 s a) (hm : MM K O s a0 a) : hdOk a s := by
  obtain ⟨⟨E, R, m⟩, ho, h10⟩ := hm
  have hv := h.1.1
  have hrm := SI_rm hn hO h.1
  obtain ⟨v, ev, hv1, hv2, eh, h8⟩ := hN_v hv hs
  obtain ⟨-, ⟨E5, e5, hE5⟩, -⟩ := hv.2.2 s hs
  have eE : tn (a 5 s) = E5 := by rw [e5, tnI (by omega)]
  rw [eE] at ev eh
  refine ⟨E5, v, e5, hE5, ev, hv2, fun _ => by omega, fun hpos => ?_⟩
  have hh : hN a s (tn (a 5 s)) ≠ 0 := by rw [eE, eh]; omega
  obtain ⟨f1, f2, f3, f4⟩ := hdP_f hs h hh
  rw [eE] at f1 f2
  have r : ∀ k, k ≠ 6 → k ≠ 18 → gHd0 a s k = a k := fun k w1 w2 => hd0_r a s k w1 w2
  refine ⟨MI_tk hs f1 (by rw [r 4 (by decide) (by decide)]; exact f2) (by split <;> omega) (sv_hd0 hv) (rm3_of (r 4 (by decide) (by decide)) hrm) (MI_hd0 m), ?_⟩
  have e1 : gHd1 a s 5 s = nI (hx (hN a s (tn (a 5 s))) (tn (a 5 s))) := gHd1_5 (hv.2.2 s hs) hh
  have e2 : gHd1 a s 5 s = gTakes (gHd0 a s) s (tn (a 5 s)) (hdF a s) 5 s := by
    unfold gHd1
    rw [gThrow_r _ _ 5 (by decide) (by decide)]
  have e3 : hdF a s = if v = 1 then 0 else v - 2 := by
    unfold hdF
    rw [eE, ev]
    by_cases c : v = 1
    · rw [if_pos c, if_pos (by rw [c])]
    · rw [if_neg c, if_neg (fun hh => c ((nI_eq (by omega) (by decide)).mp hh)), tnI (by omega)]
  rw [eE, e3] at e2
  have hgt := hx_gt (hN a s (tn (a 5 s))) (tn (a 5 s))
  exact ⟨_, e2.symm.trans e1, by omega, f3⟩
