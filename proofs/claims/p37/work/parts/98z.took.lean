/-! A message is worked. -/
/-- what the work of one wants of the books -/
def wrk (a : AS) (s E : Nat) : Prop := ∃ kd : Nat, a 11 (8192 * (1 - s) + E) = nI kd ∧ kd ≤ 8 ∧ (s = 0 → kd = 8 → tn (a 14 (8192 * (1 - s) + E)) < 40 ∧ tn (a 15 (8192 * (1 - s) + E)) < 40) ∧
  (s = 1 → 5 ≤ kd → tn (a 14 (8192 * (1 - s) + E)) < tn (a 0 22) ∧ ∃ d : Nat, d < 2 ∧ a 23 (tn (a 14 (8192 * (1 - s) + E))) = nI d ∧ (a 24 (40 + tn (a 14 (8192 * (1 - s) + E))) ≠ nI 0 → ¬ lft a (40 + tn (a 14 (8192 * (1 - s) + E))) < nI 0))
theorem SI_tkW {n : Nat → Nat} {fl rem l0 l1 s E : Nat} {a : AS} (hn : sm8 n ≤ 512) (hO : n 4 ≤ 40) (hs : s < 2) (hfl : fl = 1 + s) (hon : ¬ a 3 s = nI 0) (hw : wrk a s E) (h : SI n fl rem (l0 + pay0 a s E) (l1 + pay1 a s E) a) : SI n fl rem l0 l1 (gTkW a s (8192 * (1 - s) + E)) := by
  obtain ⟨kd, h11, hkd, hw0, hw1⟩ := hw
  have hk : kF a (1 - s) E = kd := by unfold kF; rw [h11, tnI (by omega)]
  unfold gTkW
  rcases (show s = 0 ∨ s = 1 by omega) with rfl | rfl
  · have hk' : kF a 1 E = kd := hk
    by_cases c2 : kd = 2
    · rw [if_pos (by rw [h11, c2])]
      unfold pay0 at h
      rw [if_pos ⟨rfl, hk'.trans c2⟩] at h
      exact SI_ses0 hn hO (by decide) (by omega) (SI_less (Nat.le_refl _) (Nat.le_add_right _ _) h)
    · rw [if_neg (fun h => c2 ((nI_eq (by omega) (by decide)).mp (h11.symm.trans h))), if_pos rfl]
      have h' := SI_less (Nat.le_add_right _ _) (Nat.le_add_right _ _) h
      split
      · rename_i c8
        exact SI_mkT (mkT_learns (hw0 rfl ((nI_eq (by omega) (by decide)).mp (h11.symm.trans c8)))) h'
      · exact h'
  · have hk' : kF a 0 E = kd := hk
    unfold pay1 at h
    rw [if_pos rfl, hk'] at h
    by_cases c2 : kd = 2
    · rw [if_pos (by rw [h11, c2])]
      rw [if_neg (by omega), if_pos c2] at h
      exact SI_ses1 hn hO (by decide) hon (SI_less (Nat.le_add_right _ _) (Nat.le_refl _) h)
    · rw [if_neg (fun h => c2 ((nI_eq (by omega) (by decide)).mp (h11.symm.trans h))), if_neg (by decide)]
      by_cases c5 : 5 ≤ kd
      · rw [if_neg (by rw [h11]; exact fun h => by have := (nI_ltI (by omega) (by decide)).mp h; omega)]
        rw [if_pos c5] at h
        obtain ⟨w1, d, w2, w3, w4⟩ := hw1 rfl c5
        exact SI_work hn hO w2 w1 w3 w4 (SI_less (Nat.le_add_right _ _) (Nat.le_refl _) h)
      · rw [if_pos (by rw [h11]; exact (nI_ltI (by omega) (by decide)).mpr (by omega))]
        exact SI_less (Nat.le_add_right _ _) (Nat.le_add_right _ _) h
/-- the expected one is taken and worked -/
theorem SIp_takes {n : Nat → Nat} {fl rem l0 l1 s c : Nat} {a : AS} (hn : sm8 n ≤ 512) (hO : n 4 ≤ 40) (hs : s < 2) (hfl : fl = 1 + s) (hc : cEn c = tn (a 5 s)) (hw : cEf c = 0 → wrk a s (cEn c)) (h : SIp n fl rem l0 l1 a s c 0) : SI n fl rem l0 l1 (gTakes a s (cEn c) (cEf c)) := by
  obtain ⟨g1, g2, g3⟩ := SIp_take hs hc h
  have hon : ¬ a 3 s = nI 0 := h.2.1
  unfold gTakes
  by_cases cf : 0 < cEf c
  · rw [if_pos cf]
    exact SI_less (Nat.le_add_right _ _) (Nat.le_add_right _ _) g1
  · rw [if_neg cf]
    have c0 : cEf c = 0 := by omega
    have e : nI (cNx c) = nI (cEn c + 1) := by rw [cNx_0 c0]
    rw [e] at g1
    obtain ⟨kd, w1, w2, w3, w4⟩ := hw c0
    exact SI_tkW hn hO hs hfl hon ⟨kd, w1, w2, w3, w4⟩ g1
/-- a held one -/
theorem SI_hd1 {n : Nat → Nat} {fl rem l0 l1 s : Nat} {a : AS} (hn : sm8 n ≤ 512) (hO : n 4 ≤ 40) (hs : s < 2) (hfl : fl = 1 + s) (hon : ¬ a 3 s = nI 0) (hh : hN a s (tn (a 5 s)) ≠ 0) (hA : tn (a 7 s) < tn (a 5 s)) (hw : hN a s (tn (a 5 s)) = 1 → wrk a s (tn (a 5 s))) (h : SI n fl rem l0 l1 a) : SI n fl rem l0 l1 (gHd1 a s) := by
  obtain ⟨g1, g2, g3⟩ := SI_unh hs hh hA hon h
  obtain ⟨-, -, -, -, -, -, -, -, -, -, v11⟩ := h.1.2.2 s hs
  have hE : tn (a 5 s) < 8192 := Classical.byContradiction (fun c => hh (by unfold hN; rw [if_neg c]))
  obtain ⟨v, ev, hv1, hv2⟩ := v11 (tn (a 5 s)) hE
  have eh : hN a s (tn (a 5 s)) = v := by unfold hN; rw [if_pos hE, ev, tnI (by omega)]
  rw [eh] at hh g1 hw
  refine (SI_thr hs ?_).1
  unfold gTakes hdF
  rw [ev]
  by_cases c1 : v = 1
  · subst c1
    rw [if_pos rfl, if_neg (by decide)]
    obtain ⟨kd, w1, w2, w3, w4⟩ := hw rfl
    exact SI_tkW hn hO hs hfl hon ⟨kd, w1, w2, w3, w4⟩ g1
  · rw [if_neg (fun h => c1 ((nI_eq (by omega) (by decide)).mp h)), tnI (by omega), if_pos (by omega)]
    unfold hx at g1
    rw [if_neg (by omega)] at g1
    exact SI_less (Nat.le_add_right _ _) (Nat.le_add_right _ _) g1
