/-! Sending, whole: the class against the reference. -/
theorem k_send_L {w : Nat} {μ : MP} {ν : NC} {a : AS} {s n nb : Nat} {fb0 : Nat → Int32} {kd o1 o2 o3 o4 : Int32} (hR : RR μ ν a) (hs : s < 2) (e4 : a 4 s = nI n) (hn : n + 1 ≤ 8190) (hw : ¬ a 0 2 = nI 0 → ∃ c : Nat, a 20 (1 - s) = nI c ∧ c + 1 ≤ 65536) (hnb : nb ≤ 806) (hb : bodyR (fun _ => kd) (fun _ => o1) (fun _ => o2) (fun _ => o3) (fun _ => o4) (a 37) (a 39) (a 40) 0 nb fb0) :
    ∃ (μ' : MP) (ν' : NC), f_X8_send_L w μ ν (nI s) kd nb fb0 = some ((μ', ν'), 0) ∧ RR μ' ν' (gSends a s kd o1 o2 o3 o4) ∧ ν'.2 6 = ν.2 6 + 1 ∧ ν'.2 20 = ν.2 20 ∧ ν'.2 23 = ν.2 23 ∧ ∀ c d : Int, RC c d ν → RC (c - 96) (d + nb - 66) ν' := by
  obtain ⟨h0, hF, h1, h2, h3, h4, h5, h6, h7, h8, h9⟩ := id hR
  obtain ⟨z0, z1, z2, z3, z4, z5, z10, z11, z12, z13, z24, z25, z30, z300, z31, z310, z68, z21⟩ := id h0
  obtain ⟨y1, n', y2, y3, y4, y5, y6, y7⟩ := h3.1 s hs
  have hnn : n' = n := (nI_eq (by omega) (by omega)).mp (y2.symm.trans e4)
  subst hnn
  have heK : eK 5 s = 6 := by rcases (show s = 0 ∨ s = 1 by omega) with rfl | rfl <;> decide
  have hok : nwMsgOk μ ν nb := ⟨z68, fun k' i' j h => hF 6 (Or.inl rfl) k' i' j h, by omega⟩
  skip
  generalize hμ1 : (nwMsg μ ν kd (nI (n' + 1)) (μ.1 0 0 9) nb fb0).1 = μ1
  generalize hν1 : (nwMsg μ ν kd (nI (n' + 1)) (μ.1 0 0 9) nb fb0).2 = ν1
  have m1k : ∀ k, k ≠ 6 → k ≠ 8 → μ1.1 k = μ.1 k := fun k k1 k2 => by rw [← hμ1]; simp (disch := omega) only [nwMsg, up2, up1_n]
  have m16 : μ1.1 6 = up1 (μ.1 6) (ν.2 6) (mF kd (μ.1 0 0 9)) := by rw [← hμ1]; simp (disch := omega) only [nwMsg, up2, up1_n, up1_s]
  have m18 : μ1.1 8 = up1 (μ.1 8) (ν.2 6) (msgF kd (nI (n' + 1)) nb fb0) := by rw [← hμ1, z68]; simp (disch := omega) only [nwMsg, up2, up1_n, up1_s]
  have m12 : μ1.2 = μ.2 := by rw [← hμ1]; rfl
  have v1k : ∀ k, k ≠ 8 → k ≠ 98 → ν1.1 k = ν.1 k := fun k k1 k2 => by rw [← hν1]; simp (disch := omega) only [nwMsg, chg, up2, up1_n]
  have v18 : ν1.1 8 = up1 (ν.1 8) (ν.2 6) (nb + 6) := by rw [← hν1, z68]; simp (disch := omega) only [nwMsg, chg, up2, up1_n, up1_s]
  have v2k : ∀ k, k ≠ 6 → k ≠ 8 → ν1.2 k = ν.2 k := fun k k1 k2 => by rw [← hν1]; simp (disch := omega) only [nwMsg, chg, up1_n]
  have v26 : ν1.2 6 = ν.2 6 + 1 := by rw [← hν1]; simp (disch := omega) only [nwMsg, chg, up1_s]
  have v28 : ν1.2 8 = ν.2 6 + 1 := by rw [← hν1, z68]; simp (disch := omega) only [nwMsg, chg, up1_n, up1_s]
  have c1C : ∀ c d : Int, RC c d ν → RC (c - 96) (d + nb - 66) ν1 := fun c d hC => by
    obtain ⟨g1, g2⟩ := hC
    unfold RC
    rw [v26, v2k 20 (by decide) (by decide), v2k 23 (by decide) (by decide), v1k 10 (by decide) (by decide), v1k 13 (by decide) (by decide), v1k 5 (by decide) (by decide)]
    have k1 : kc ν1 = kc ν + 3 := by rw [← hν1]; simp (disch := omega) only [nwMsg, chg, kc, up2_n, up2_s]
    have k2 : ks ν1 = ks ν + (nb + 14) := by rw [← hν1]; simp (disch := omega) only [nwMsg, chg, ks, up2_n, up2_s]
    rw [k1, k2]
    omega
  have h01 : R0 ν1 := ⟨by rw [v2k _ (by decide) (by decide)]; exact z0, by rw [v2k _ (by decide) (by decide)]; exact z1, by rw [v2k _ (by decide) (by decide)]; exact z2, by rw [v2k _ (by decide) (by decide)]; exact z3, by rw [v2k _ (by decide) (by decide)]; exact z4, by rw [v2k _ (by decide) (by decide)]; exact z5, by rw [v2k _ (by decide) (by decide)]; exact z10, by rw [v2k _ (by decide) (by decide)]; exact z11, by rw [v2k _ (by decide) (by decide)]; exact z12, by rw [v2k _ (by decide) (by decide)]; exact z13, by rw [v2k _ (by decide) (by decide)]; exact z24, by rw [v2k _ (by decide) (by decide)]; exact z25, by rw [v2k _ (by decide) (by decide)]; exact z30, by rw [v1k _ (by decide) (by decide)]; exact z300, by rw [v2k _ (by decide) (by decide)]; exact z31, by rw [v1k _ (by decide) (by decide)]; exact z310, by rw [v26, v28], by rw [v2k _ (by decide) (by decide), v2k _ (by decide) (by decide)]; exact z21⟩
  have hsz1 : μ1.1 4 s 2 = nI n' := by rw [m1k 4 (by decide) (by decide), y1]; exact e4
  obtain ⟨μ2, ν2, a1, a2, a3, a4, a5, a6, a7, a8, a9, a10, a11, a12, a13, a14, a15⟩ := k_add (w := w) (μ := μ1) (ν := ν1) (i := s) (p := ν.2 6 + 1) (n := n') h01 (by omega) hsz1 (by omega) (by rw [v1k 5 (by decide) (by decide)]; exact y4) (by rw [v1k 5 (by decide) (by decide)]; exact y5) (by omega) (by rw [heK, v26]; omega) (fun z => by rw [heK, v26, m12]; exact Nat.le_succ_of_le (y6 z))
  rw [heK, v26] at a5
  have h02 : R0 ν2 := by
    unfold R0
    rw [a12, a13 30 (by decide) (by decide), a13 31 (by decide) (by decide)]
    exact h01
  generalize hμ3 : uM μ2 1 s 7 (μ2.1 0 0 9) = μ3
  have m3k : ∀ k, k ≠ 1 → μ3.1 k = μ2.1 k := fun k k1 => by rw [← hμ3]; simp (disch := omega) only [uM, up3, up2, up1_n]
  have m32 : μ3.2 = μ2.2 := by rw [← hμ3]; rfl
  have m31 : ∀ j, j ≠ s → μ3.1 1 j = μ2.1 1 j := fun j hj => by rw [← hμ3]; simp (disch := omega) only [uM, up3, up2_n]
  have m31s : μ3.1 1 s = up1 (μ2.1 1 s) 7 (μ2.1 0 0 9) := by rw [← hμ3]; simp (disch := omega) only [uM, up3_s]
  have e0 : μ2.1 0 = μ.1 0 := (a8 0 (by decide)).trans (m1k 0 (by decide) (by decide))
  have e1 : μ2.1 1 = μ.1 1 := (a8 1 (by decide)).trans (m1k 1 (by decide) (by decide))
  have mm : ∀ k, k ≠ 1 → k ≠ 4 → k ≠ 6 → k ≠ 8 → μ3.1 k = μ.1 k := fun k k1 k2 k3 k4 => (m3k k k1).trans ((a8 k k2).trans (m1k k k3 k4))
  have pp : ∀ k, k ≠ 5 → μ3.2 k = μ.2 k := fun k k1 => by rw [m32, a10 k k1, m12]
  have vv : ∀ k, k ≠ 5 → k ≠ 8 → k ≠ 98 → ν2.1 k = ν.1 k := fun k k1 k2 k3 => (a13 k k1 k3).trans (v1k k k2 k3)
  have hrun : f_X8_send_L w μ ν (nI s) kd nb fb0 = b_X8_send_L_51 w μ2 ν2 (nI s) (s + 1) (nI (n' + 1)) 1 := by
    have hsz : μ.1 4 s 2 = nI n' := y1.trans e4
    have hle : nI (n' + 1) ≤ nI 1048576 := (nI_leI (by omega) (by decide)).mpr (by omega)
    unfold f_X8_send_L
    rw [ltt z0, k_party h0 hs]
    simp only [cond_true, Option.bind_some, nzs, Nat.add_sub_cancel, ltt (show s < ν.2 1 by omega), ltt (show s < ν.2 4 by omega), yl, hsz]
    rw [q1, nI_add, show (1048576 : Int32) = nI 1048576 from rfl, if_pos hle]
    skip
    rw [if_pos hok, hμ1, hν1]
    unfold b_X8_send_L_48
    simp only [cond_true, Option.bind_some, nzs, Nat.add_sub_cancel, heK, eqs, ltt (show s < ν1.2 4 by rw [v2k 4 (by decide) (by decide)]; omega), ltt h01.1, decide_eq_true (show s + 1 ≤ ν1.2 1 by rw [v2k 1 (by decide) (by decide)]; omega), a1]
    rfl
  have h51 : b_X8_send_L_51 w μ2 ν2 (nI s) (s + 1) (nI (n' + 1)) 1 = (if a 0 2 = nI 0 then some ((μ3, ν2), 0) else (f_X7_put w μ3 ν2 (1 - s) (nI (n' + 1)) (nI 1)).bind (fun v => some (v.1, 0))) := by
    have eup : μ3.1 0 0 8 = a 0 2 := by rw [mm 0 (by decide) (by decide) (by decide) (by decide)]; exact h1.1
    unfold b_X8_send_L_51
    simp only [cond_true, Option.bind_some, nzs, Nat.add_sub_cancel, yl, ltt h02.1, ltt (show s < ν2.2 1 by have := h02.2.1; omega)]
    rw [hμ3, eup, q0]
    by_cases c : a 0 2 = nI 0
    · rw [if_pos c, if_pos c]; rfl
    · rw [if_neg c, if_neg c, k_other hs, Option.bind_some, k_party h02 (show 1 - s < 2 by omega)]
      simp only [cond_true, Option.bind_some, nzs, Nat.add_sub_cancel, ltt (show 1 - s < ν2.2 1 by have := h02.2.1; omega), ltt (show 1 - s < ν2.2 2 by have := h02.2.2.1; omega), q1]
      rfl
  rw [hrun, h51]
  have h3' : ∀ μ' : MP, μ'.1 4 = μ3.1 4 → μ'.1 6 = μ3.1 6 → μ'.1 8 = μ3.1 8 → μ'.2 5 = μ3.2 5 → ∀ l5 l8 : Nat → Nat, l5 = ν2.1 5 → l8 = ν2.1 8 → R3 (μ'.1 4) (μ'.2 5) (μ'.1 6) (μ'.1 8) l5 l8 (ν.2 6 + 1) (gSends a s kd o1 o2 o3 o4 4) (gSends a s kd o1 o2 o3 o4 11) (gSends a s kd o1 o2 o3 o4 12) (gSends a s kd o1 o2 o3 o4 13) (gSends a s kd o1 o2 o3 o4 14) (gSends a s kd o1 o2 o3 o4 15) (gSends a s kd o1 o2 o3 o4 16) (gSends a s kd o1 o2 o3 o4 17) (gSends a s kd o1 o2 o3 o4 37) (gSends a s kd o1 o2 o3 o4 39) (gSends a s kd o1 o2 o3 o4 40) := fun μ' g4 g6 g8 g5 l5 l8 gl5 gl8 => by
    obtain ⟨r1, r2, r3, r4, r5, r6, r7, r8⟩ := gKeep_rows a s n' kd o1 o2 o3 o4 e4 (by omega)
    rw [gSends_q _ _ _ _ _ _ _ 4 (by decide) (by decide) (by decide), gSends_q _ _ _ _ _ _ _ 11 (by decide) (by decide) (by decide), gSends_q _ _ _ _ _ _ _ 12 (by decide) (by decide) (by decide), gSends_q _ _ _ _ _ _ _ 13 (by decide) (by decide) (by decide), gSends_q _ _ _ _ _ _ _ 14 (by decide) (by decide) (by decide), gSends_q _ _ _ _ _ _ _ 15 (by decide) (by decide) (by decide), gSends_q _ _ _ _ _ _ _ 16 (by decide) (by decide) (by decide), gSends_q _ _ _ _ _ _ _ 17 (by decide) (by decide) (by decide), r1, r2, r3, r4, r5, r6, r7, r8, gSends_r _ _ _ _ _ _ _ 37 (by decide) (by decide) (by decide) (by decide) (by decide), gSends_r _ _ _ _ _ _ _ 39 (by decide) (by decide) (by decide) (by decide) (by decide), gSends_r _ _ _ _ _ _ _ 40 (by decide) (by decide) (by decide) (by decide) (by decide)]
    rw [g4, g6, g8, g5, gl5, gl8, m3k 4 (by decide), m3k 6 (by decide), m3k 8 (by decide), a8 6 (by decide), a8 8 (by decide), m16, m18, a13 8 (by decide) (by decide), v18, m32]
    have enow : μ.1 0 0 9 = a 0 1 := h1.2.1
    rw [← enow]
    refine R3_send h3 hs e4 hn hnb hb a2 (fun z hz => by rw [a3 z hz, m12]) a4 a5 a6 a7 (fun j hj => by rw [a9 j hj, m1k 4 (by decide) (by decide)]) (fun j hj => by rw [a11 j hj, m12]) (fun j hj => by rw [a14 j hj, v1k 5 (by decide) (by decide)])
  have hF' : ∀ (p : Nat → Nat → Nat → Nat) (nn : Nat → Nat), p = μ3.2 → nn = ν2.2 → RF p nn := fun p nn e1 e2 κ hκ k' i' j hk he => by
    rw [e1, e2, a12]
    have hle : ν.2 κ ≤ ν1.2 κ := by
      rcases hκ with rfl | rfl | rfl
      · rw [v26]; omega
      · rw [v2k 20 (by decide) (by decide)]; omega
      · rw [v2k 23 (by decide) (by decide)]; omega
    by_cases h5k : k' = 5
    · subst h5k
      by_cases his : i' = s
      · subst his
        have : κ = 6 := by rw [← he, heK]
        subst this
        rw [m32, v26]; exact a5 j
      · rw [m32, a11 _ his, m12]
        exact Nat.le_trans (hF κ hκ 5 i' j hk he) hle
    · rw [pp k' h5k]
      exact Nat.le_trans (hF κ hκ k' i' j hk he) hle
  have tail : ∀ (μ' : MP) (ν' : NC), (∀ k, k ≠ 2 → k ≠ 10 → k ≠ 11 → k ≠ 12 → μ'.1 k = μ3.1 k) → μ'.2 = μ3.2 → ν'.2 = ν2.2 → (∀ k, k ≠ 10 → k ≠ 11 → k ≠ 12 → k ≠ 98 → ν'.1 k = ν2.1 k) → R4 (μ'.1 2) (μ'.1 10) (μ'.1 11) (μ'.1 12) (ν'.1 10) (ν'.1 11) (ν'.1 12) (gSends a s kd o1 o2 o3 o4 19) (gSends a s kd o1 o2 o3 o4 20) (gSends a s kd o1 o2 o3 o4 21) → (¬ a 0 2 = nI 0 → gSends a s kd o1 o2 o3 o4 9 = up1 (a 9) s (a 0 1)) → RR μ' ν' (gSends a s kd o1 o2 o3 o4) := fun μ' ν' f1 f2 f3 f4 f5 f9 => by
    have gr : ∀ k, k ≠ 4 → (k < 11 ∨ 17 < k) → k ≠ 21 → k ≠ 20 → k ≠ 9 → gSends a s kd o1 o2 o3 o4 k = a k := fun k => gSends_r a s kd o1 o2 o3 o4 k
    refine ⟨?_, hF' _ _ f2 f3, ?_, ?_, ?_, f5, ?_, ?_, ?_, ?_, ?_⟩
    · unfold R0
      rw [f3, f4 30 (by decide) (by decide) (by decide) (by decide), f4 31 (by decide) (by decide) (by decide) (by decide)]
      exact h02
    · rw [gr 0 (by decide) (by decide) (by decide) (by decide) (by decide), f1 0 (by decide) (by decide) (by decide) (by decide), mm 0 (by decide) (by decide) (by decide) (by decide)]
      exact h1
    · rw [gr 0 (by decide) (by decide) (by decide) (by decide) (by decide), gr 3 (by decide) (by decide) (by decide) (by decide) (by decide), gr 5 (by decide) (by decide) (by decide) (by decide) (by decide), gr 7 (by decide) (by decide) (by decide) (by decide) (by decide), gr 8 (by decide) (by decide) (by decide) (by decide) (by decide), gr 10 (by decide) (by decide) (by decide) (by decide) (by decide), f1 1 (by decide) (by decide) (by decide) (by decide)]
      intro s' hs'
      obtain ⟨x1, x2, x3, x4, x5, x6, x7, x8⟩ := h2 s' hs'
      by_cases hss : s' = s
      · subst hss
        rw [m31s, e1, e0]
        refine ⟨(up1_n _ _ (by decide)).trans x1, (up1_n _ _ (by decide)).trans x2, (up1_n _ _ (by decide)).trans x3, (up1_n _ _ (by decide)).trans x4, (up1_n _ _ (by decide)).trans x5, fun hu => ?_, x7, x8⟩
        rw [f9 hu, up1_s, up1_s]
        exact h1.2.1
      · rw [m31 _ hss, e1]
        refine ⟨x1, x2, x3, x4, x5, fun hu => ?_, x7, x8⟩
        rw [f9 hu, up1_n _ _ hss]
        exact x6 hu
    · have := h3' μ' (f1 4 (by decide) (by decide) (by decide) (by decide)) (f1 6 (by decide) (by decide) (by decide) (by decide)) (f1 8 (by decide) (by decide) (by decide) (by decide)) (by rw [f2]) (ν'.1 5) (ν'.1 8) (f4 5 (by decide) (by decide) (by decide) (by decide)) (f4 8 (by decide) (by decide) (by decide) (by decide))
      rw [f3, a12, v26]
      exact this
    · rw [gr 5 (by decide) (by decide) (by decide) (by decide) (by decide), gr 6 (by decide) (by decide) (by decide) (by decide) (by decide), gr 18 (by decide) (by decide) (by decide) (by decide) (by decide), f1 3 (by decide) (by decide) (by decide) (by decide), f1 13 (by decide) (by decide) (by decide) (by decide), mm 3 (by decide) (by decide) (by decide) (by decide), mm 13 (by decide) (by decide) (by decide) (by decide), f4 13 (by decide) (by decide) (by decide) (by decide), vv 13 (by decide) (by decide) (by decide)]
      exact h5
    · rw [gr 0 (by decide) (by decide) (by decide) (by decide) (by decide), gr 23 (by decide) (by decide) (by decide) (by decide) (by decide), gr 24 (by decide) (by decide) (by decide) (by decide) (by decide), gr 25 (by decide) (by decide) (by decide) (by decide) (by decide), gr 26 (by decide) (by decide) (by decide) (by decide) (by decide), gr 27 (by decide) (by decide) (by decide) (by decide) (by decide), gr 28 (by decide) (by decide) (by decide) (by decide) (by decide), gr 29 (by decide) (by decide) (by decide) (by decide) (by decide), gr 30 (by decide) (by decide) (by decide) (by decide) (by decide), f1 20 (by decide) (by decide) (by decide) (by decide), f1 21 (by decide) (by decide) (by decide) (by decide), mm 20 (by decide) (by decide) (by decide) (by decide), mm 21 (by decide) (by decide) (by decide) (by decide), f3, a12, v2k 20 (by decide) (by decide)]
      refine R6_of h6 ?_ ?_ ?_
      · rw [f1 4 (by decide) (by decide) (by decide) (by decide), m3k 4 (by decide), a9 2 (by omega), m1k 4 (by decide) (by decide)]
      · rw [f2, m32, a11 2 (by omega), m12]
      · rw [f4 5 (by decide) (by decide) (by decide) (by decide), a14 2 (by omega), v1k 5 (by decide) (by decide)]
    · rw [gr 0 (by decide) (by decide) (by decide) (by decide) (by decide), gr 36 (by decide) (by decide) (by decide) (by decide) (by decide), gr 37 (by decide) (by decide) (by decide) (by decide) (by decide), gr 38 (by decide) (by decide) (by decide) (by decide) (by decide), gr 39 (by decide) (by decide) (by decide) (by decide) (by decide), gr 40 (by decide) (by decide) (by decide) (by decide) (by decide), gr 41 (by decide) (by decide) (by decide) (by decide) (by decide), gr 42 (by decide) (by decide) (by decide) (by decide) (by decide), gr 43 (by decide) (by decide) (by decide) (by decide) (by decide), f1 23 (by decide) (by decide) (by decide) (by decide), mm 23 (by decide) (by decide) (by decide) (by decide), f3, a12, v2k 23 (by decide) (by decide)]
      have hp23 : μ'.2 23 = μ.2 23 := by rw [f2]; exact pp 23 (by decide)
      rw [hp23]
      refine R7_of h7 ?_ ?_ ?_
      · rw [f1 4 (by decide) (by decide) (by decide) (by decide), m3k 4 (by decide), a9 5 (by omega), m1k 4 (by decide) (by decide)]
      · rw [f2, m32, a11 5 (by omega), m12]
      · rw [f4 5 (by decide) (by decide) (by decide) (by decide), a14 5 (by omega), v1k 5 (by decide) (by decide)]
    · have hp24 : μ'.2 24 = μ.2 24 := by rw [f2]; exact pp 24 (by decide)
      rw [gr 33 (by decide) (by decide) (by decide) (by decide) (by decide), gr 34 (by decide) (by decide) (by decide) (by decide) (by decide), hp24, f4 24 (by decide) (by decide) (by decide) (by decide), vv 24 (by decide) (by decide) (by decide), f1 25 (by decide) (by decide) (by decide) (by decide), mm 25 (by decide) (by decide) (by decide) (by decide)]
      exact h8
    · rw [gr 0 (by decide) (by decide) (by decide) (by decide) (by decide), gr 23 (by decide) (by decide) (by decide) (by decide) (by decide), gr 24 (by decide) (by decide) (by decide) (by decide) (by decide), gr 25 (by decide) (by decide) (by decide) (by decide) (by decide), gr 31 (by decide) (by decide) (by decide) (by decide) (by decide), f3, a12, v2k 20 (by decide) (by decide)]
      refine R9_of h9 (fun d hd => ?_) (fun d hd => ?_) (fun d hd => ?_)
      · rw [f1 4 (by decide) (by decide) (by decide) (by decide), m3k 4 (by decide), a9 (3 + d) (by omega), m1k 4 (by decide) (by decide)]
      · rw [f2, m32, a11 (3 + d) (by omega), m12]
      · rw [f4 5 (by decide) (by decide) (by decide) (by decide), a14 (3 + d) (by omega), v1k 5 (by decide) (by decide)]
  have hcnt : ν2.2 6 = ν.2 6 + 1 ∧ ν2.2 20 = ν.2 20 ∧ ν2.2 23 = ν.2 23 := ⟨by rw [a12, v26], by rw [a12, v2k 20 (by decide) (by decide)], by rw [a12, v2k 23 (by decide) (by decide)]⟩
  by_cases hup : a 0 2 = nI 0
  · rw [if_pos hup]
    have hg : gSends a s kd o1 o2 o3 o4 = gKeep a s kd o1 o2 o3 o4 := if_pos hup
    refine ⟨μ3, ν2, rfl, tail μ3 ν2 (fun _ _ _ _ _ => rfl) rfl rfl (fun _ _ _ _ _ => rfl) ?_ (fun h => absurd hup h), hcnt.1, hcnt.2.1, hcnt.2.2, fun c d hC => a15 _ _ (c1C c d hC)⟩
    have gk : ∀ k, k ≠ 4 → (k < 11 ∨ 17 < k) → gKeep a s kd o1 o2 o3 o4 k = a k := fun k k1 k2 => funext fun i => gKeep_k a s kd o1 o2 o3 o4 k i k1 k2
    rw [hg, gk 19 (by decide) (by decide), gk 20 (by decide) (by decide), gk 21 (by decide) (by decide), mm 2 (by decide) (by decide) (by decide) (by decide), mm 10 (by decide) (by decide) (by decide) (by decide), mm 11 (by decide) (by decide) (by decide) (by decide), mm 12 (by decide) (by decide) (by decide) (by decide), vv 10 (by decide) (by decide) (by decide), vv 11 (by decide) (by decide) (by decide), vv 12 (by decide) (by decide) (by decide)]
    exact h4
  · rw [if_neg hup]
    obtain ⟨c, e20, hc⟩ := hw hup
    have h43 : R4 (μ3.1 2) (μ3.1 10) (μ3.1 11) (μ3.1 12) (ν2.1 10) (ν2.1 11) (ν2.1 12) (a 19) (a 20) (a 21) := by
      rw [mm 2 (by decide) (by decide) (by decide) (by decide), mm 10 (by decide) (by decide) (by decide) (by decide), mm 11 (by decide) (by decide) (by decide) (by decide), mm 12 (by decide) (by decide) (by decide) (by decide), vv 10 (by decide) (by decide) (by decide), vv 11 (by decide) (by decide) (by decide), vv 12 (by decide) (by decide) (by decide)]
      exact h4
    obtain ⟨μ4, ν4, p1, p2, p3, p4, p5, p6, p7⟩ := k_put (w := w) (x := n' + 1) (f := 0) h02 h43 (show 1 - s < 2 by omega) e20 hc (by omega) (by omega) (by omega)
    rw [if_pos rfl] at p1
    rw [p1]
    have hg : gSends a s kd o1 o2 o3 o4 = gGoes (gKeep a s kd o1 o2 o3 o4) s (n' + 1) 0 := by
      show (if _ then _ else _) = _
      rw [if_neg (show ¬ a 0 2 = 0 from hup), e4, tnI (by omega)]
    have gk : ∀ k, k ≠ 4 → (k < 11 ∨ 17 < k) → gKeep a s kd o1 o2 o3 o4 k = a k := fun k k1 k2 => funext fun i => gKeep_k a s kd o1 o2 o3 o4 k i k1 k2
    have g19 : gSends a s kd o1 o2 o3 o4 19 = a 19 := gSends_r _ _ _ _ _ _ _ 19 (by decide) (by decide) (by decide) (by decide) (by decide)
    have g20 : gSends a s kd o1 o2 o3 o4 20 = up1 (a 20) (1 - s) (nI (c + 1)) := by
      rw [hg]
      funext i
      simp (disch := omega) only [gGoes, up2, up1_n, up1_s, gk 20 (by decide) (by decide), e20, tn, nI_clamp]
    have g21 : gSends a s kd o1 o2 o3 o4 21 = up1 (a 21) (65536 * (1 - s) + (tn (a 19 (1 - s)) + c) % 65536) (nI (2 * (8192 * (n' + 1) + 0))) := by
      rw [hg]
      funext i
      simp (disch := omega) only [gGoes, pl, up2, up1_n, up1_s, gk 20 (by decide) (by decide), gk 19 (by decide) (by decide), gk 21 (by decide) (by decide), e20, tn, nI_clamp]
    have g9 : gSends a s kd o1 o2 o3 o4 9 = up1 (a 9) s (a 0 1) := by
      rw [hg]
      funext i
      simp (disch := omega) only [gGoes, up2, up1_n, up1_s, gk 9 (by decide) (by decide), gk 0 (by decide) (by decide)]
    refine ⟨μ4, ν4, rfl, tail μ4 ν4 p4 p3 p5 p6 ?_ (fun _ => g9), by rw [p5]; exact hcnt.1, by rw [p5]; exact hcnt.2.1, by rw [p5]; exact hcnt.2.2, fun c d hC => p7 _ _ (a15 _ _ (c1C c d hC))⟩
    rw [g19, g20, g21]
    exact p2
theorem k_send_N {w : Nat} {μ : MP} {ν : NC} {a : AS} {s n nb : Nat} {kd o1 o2 o3 o4 : Int32} (hR : RR μ ν a) (hs : s < 2) (e4 : a 4 s = nI n) (hn : n + 1 ≤ 8190) (hw : ¬ a 0 2 = nI 0 → ∃ c : Nat, a 20 (1 - s) = nI c ∧ c + 1 ≤ 65536) (hnb : nb ≤ 806) (hb : bodyR (fun _ => kd) (fun _ => o1) (fun _ => o2) (fun _ => o3) (fun _ => o4) (a 37) (a 39) (a 40) 0 nb (μ.1 30 0)) (hnb0 : nb = 0) :
    ∃ (μ' : MP) (ν' : NC), f_X8_send_N w μ ν (nI s) kd  = some ((μ', ν'), 0) ∧ RR μ' ν' (gSends a s kd o1 o2 o3 o4) ∧ ν'.2 6 = ν.2 6 + 1 ∧ ν'.2 20 = ν.2 20 ∧ ν'.2 23 = ν.2 23 ∧ ∀ c d : Int, RC c d ν → RC (c - 96) (d + nb - 66) ν' := by
  obtain ⟨h0, hF, h1, h2, h3, h4, h5, h6, h7, h8, h9⟩ := id hR
  obtain ⟨z0, z1, z2, z3, z4, z5, z10, z11, z12, z13, z24, z25, z30, z300, z31, z310, z68, z21⟩ := id h0
  obtain ⟨y1, n', y2, y3, y4, y5, y6, y7⟩ := h3.1 s hs
  have hnn : n' = n := (nI_eq (by omega) (by omega)).mp (y2.symm.trans e4)
  subst hnn
  have heK : eK 5 s = 6 := by rcases (show s = 0 ∨ s = 1 by omega) with rfl | rfl <;> decide
  have hok : nwMsgOk μ ν 0 := ⟨z68, fun k' i' j h => hF 6 (Or.inl rfl) k' i' j h, by omega⟩
  subst hnb0
  generalize hμ1 : (nwMsg μ ν kd (nI (n' + 1)) (μ.1 0 0 9) 0 (μ.1 30 0)).1 = μ1
  generalize hν1 : (nwMsg μ ν kd (nI (n' + 1)) (μ.1 0 0 9) 0 (μ.1 30 0)).2 = ν1
  have m1k : ∀ k, k ≠ 6 → k ≠ 8 → μ1.1 k = μ.1 k := fun k k1 k2 => by rw [← hμ1]; simp (disch := omega) only [nwMsg, up2, up1_n]
  have m16 : μ1.1 6 = up1 (μ.1 6) (ν.2 6) (mF kd (μ.1 0 0 9)) := by rw [← hμ1]; simp (disch := omega) only [nwMsg, up2, up1_n, up1_s]
  have m18 : μ1.1 8 = up1 (μ.1 8) (ν.2 6) (msgF kd (nI (n' + 1)) 0 (μ.1 30 0)) := by rw [← hμ1, z68]; simp (disch := omega) only [nwMsg, up2, up1_n, up1_s]
  have m12 : μ1.2 = μ.2 := by rw [← hμ1]; rfl
  have v1k : ∀ k, k ≠ 8 → k ≠ 98 → ν1.1 k = ν.1 k := fun k k1 k2 => by rw [← hν1]; simp (disch := omega) only [nwMsg, chg, up2, up1_n]
  have v18 : ν1.1 8 = up1 (ν.1 8) (ν.2 6) (0 + 6) := by rw [← hν1, z68]; simp (disch := omega) only [nwMsg, chg, up2, up1_n, up1_s]
  have v2k : ∀ k, k ≠ 6 → k ≠ 8 → ν1.2 k = ν.2 k := fun k k1 k2 => by rw [← hν1]; simp (disch := omega) only [nwMsg, chg, up1_n]
  have v26 : ν1.2 6 = ν.2 6 + 1 := by rw [← hν1]; simp (disch := omega) only [nwMsg, chg, up1_s]
  have v28 : ν1.2 8 = ν.2 6 + 1 := by rw [← hν1, z68]; simp (disch := omega) only [nwMsg, chg, up1_n, up1_s]
  have c1C : ∀ c d : Int, RC c d ν → RC (c - 96) (d + 0 - 66) ν1 := fun c d hC => by
    obtain ⟨g1, g2⟩ := hC
    unfold RC
    rw [v26, v2k 20 (by decide) (by decide), v2k 23 (by decide) (by decide), v1k 10 (by decide) (by decide), v1k 13 (by decide) (by decide), v1k 5 (by decide) (by decide)]
    have k1 : kc ν1 = kc ν + 3 := by rw [← hν1]; simp (disch := omega) only [nwMsg, chg, kc, up2_n, up2_s]
    have k2 : ks ν1 = ks ν + (0 + 14) := by rw [← hν1]; simp (disch := omega) only [nwMsg, chg, ks, up2_n, up2_s]
    rw [k1, k2]
    omega
  have h01 : R0 ν1 := ⟨by rw [v2k _ (by decide) (by decide)]; exact z0, by rw [v2k _ (by decide) (by decide)]; exact z1, by rw [v2k _ (by decide) (by decide)]; exact z2, by rw [v2k _ (by decide) (by decide)]; exact z3, by rw [v2k _ (by decide) (by decide)]; exact z4, by rw [v2k _ (by decide) (by decide)]; exact z5, by rw [v2k _ (by decide) (by decide)]; exact z10, by rw [v2k _ (by decide) (by decide)]; exact z11, by rw [v2k _ (by decide) (by decide)]; exact z12, by rw [v2k _ (by decide) (by decide)]; exact z13, by rw [v2k _ (by decide) (by decide)]; exact z24, by rw [v2k _ (by decide) (by decide)]; exact z25, by rw [v2k _ (by decide) (by decide)]; exact z30, by rw [v1k _ (by decide) (by decide)]; exact z300, by rw [v2k _ (by decide) (by decide)]; exact z31, by rw [v1k _ (by decide) (by decide)]; exact z310, by rw [v26, v28], by rw [v2k _ (by decide) (by decide), v2k _ (by decide) (by decide)]; exact z21⟩
  have hsz1 : μ1.1 4 s 2 = nI n' := by rw [m1k 4 (by decide) (by decide), y1]; exact e4
  obtain ⟨μ2, ν2, a1, a2, a3, a4, a5, a6, a7, a8, a9, a10, a11, a12, a13, a14, a15⟩ := k_add (w := w) (μ := μ1) (ν := ν1) (i := s) (p := ν.2 6 + 1) (n := n') h01 (by omega) hsz1 (by omega) (by rw [v1k 5 (by decide) (by decide)]; exact y4) (by rw [v1k 5 (by decide) (by decide)]; exact y5) (by omega) (by rw [heK, v26]; omega) (fun z => by rw [heK, v26, m12]; exact Nat.le_succ_of_le (y6 z))
  rw [heK, v26] at a5
  have h02 : R0 ν2 := by
    unfold R0
    rw [a12, a13 30 (by decide) (by decide), a13 31 (by decide) (by decide)]
    exact h01
  generalize hμ3 : uM μ2 1 s 7 (μ2.1 0 0 9) = μ3
  have m3k : ∀ k, k ≠ 1 → μ3.1 k = μ2.1 k := fun k k1 => by rw [← hμ3]; simp (disch := omega) only [uM, up3, up2, up1_n]
  have m32 : μ3.2 = μ2.2 := by rw [← hμ3]; rfl
  have m31 : ∀ j, j ≠ s → μ3.1 1 j = μ2.1 1 j := fun j hj => by rw [← hμ3]; simp (disch := omega) only [uM, up3, up2_n]
  have m31s : μ3.1 1 s = up1 (μ2.1 1 s) 7 (μ2.1 0 0 9) := by rw [← hμ3]; simp (disch := omega) only [uM, up3_s]
  have e0 : μ2.1 0 = μ.1 0 := (a8 0 (by decide)).trans (m1k 0 (by decide) (by decide))
  have e1 : μ2.1 1 = μ.1 1 := (a8 1 (by decide)).trans (m1k 1 (by decide) (by decide))
  have mm : ∀ k, k ≠ 1 → k ≠ 4 → k ≠ 6 → k ≠ 8 → μ3.1 k = μ.1 k := fun k k1 k2 k3 k4 => (m3k k k1).trans ((a8 k k2).trans (m1k k k3 k4))
  have pp : ∀ k, k ≠ 5 → μ3.2 k = μ.2 k := fun k k1 => by rw [m32, a10 k k1, m12]
  have vv : ∀ k, k ≠ 5 → k ≠ 8 → k ≠ 98 → ν2.1 k = ν.1 k := fun k k1 k2 k3 => (a13 k k1 k3).trans (v1k k k2 k3)
  have hrun : f_X8_send_N w μ ν (nI s) kd  = b_X8_send_N_51 w μ2 ν2 (nI s) (s + 1) (nI (n' + 1)) 1 := by
    have hsz : μ.1 4 s 2 = nI n' := y1.trans e4
    have hle : nI (n' + 1) ≤ nI 1048576 := (nI_leI (by omega) (by decide)).mpr (by omega)
    unfold f_X8_send_N
    rw [ltt z0, k_party h0 hs]
    simp only [cond_true, Option.bind_some, nzs, Nat.add_sub_cancel, ltt (show s < ν.2 1 by omega), ltt (show s < ν.2 4 by omega), yl, hsz]
    rw [q1, nI_add, show (1048576 : Int32) = nI 1048576 from rfl, if_pos hle]
    rw [ltt z30, z300, eqs]; simp only [cond_true]
    rw [if_pos hok, hμ1, hν1]
    unfold b_X8_send_N_48
    simp only [cond_true, Option.bind_some, nzs, Nat.add_sub_cancel, heK, eqs, ltt (show s < ν1.2 4 by rw [v2k 4 (by decide) (by decide)]; omega), ltt h01.1, decide_eq_true (show s + 1 ≤ ν1.2 1 by rw [v2k 1 (by decide) (by decide)]; omega), a1]
    rfl
  have h51 : b_X8_send_N_51 w μ2 ν2 (nI s) (s + 1) (nI (n' + 1)) 1 = (if a 0 2 = nI 0 then some ((μ3, ν2), 0) else (f_X7_put w μ3 ν2 (1 - s) (nI (n' + 1)) (nI 1)).bind (fun v => some (v.1, 0))) := by
    have eup : μ3.1 0 0 8 = a 0 2 := by rw [mm 0 (by decide) (by decide) (by decide) (by decide)]; exact h1.1
    unfold b_X8_send_N_51
    simp only [cond_true, Option.bind_some, nzs, Nat.add_sub_cancel, yl, ltt h02.1, ltt (show s < ν2.2 1 by have := h02.2.1; omega)]
    rw [hμ3, eup, q0]
    by_cases c : a 0 2 = nI 0
    · rw [if_pos c, if_pos c]; rfl
    · rw [if_neg c, if_neg c, k_other hs, Option.bind_some, k_party h02 (show 1 - s < 2 by omega)]
      simp only [cond_true, Option.bind_some, nzs, Nat.add_sub_cancel, ltt (show 1 - s < ν2.2 1 by have := h02.2.1; omega), ltt (show 1 - s < ν2.2 2 by have := h02.2.2.1; omega), q1]
      rfl
  rw [hrun, h51]
  have h3' : ∀ μ' : MP, μ'.1 4 = μ3.1 4 → μ'.1 6 = μ3.1 6 → μ'.1 8 = μ3.1 8 → μ'.2 5 = μ3.2 5 → ∀ l5 l8 : Nat → Nat, l5 = ν2.1 5 → l8 = ν2.1 8 → R3 (μ'.1 4) (μ'.2 5) (μ'.1 6) (μ'.1 8) l5 l8 (ν.2 6 + 1) (gSends a s kd o1 o2 o3 o4 4) (gSends a s kd o1 o2 o3 o4 11) (gSends a s kd o1 o2 o3 o4 12) (gSends a s kd o1 o2 o3 o4 13) (gSends a s kd o1 o2 o3 o4 14) (gSends a s kd o1 o2 o3 o4 15) (gSends a s kd o1 o2 o3 o4 16) (gSends a s kd o1 o2 o3 o4 17) (gSends a s kd o1 o2 o3 o4 37) (gSends a s kd o1 o2 o3 o4 39) (gSends a s kd o1 o2 o3 o4 40) := fun μ' g4 g6 g8 g5 l5 l8 gl5 gl8 => by
    obtain ⟨r1, r2, r3, r4, r5, r6, r7, r8⟩ := gKeep_rows a s n' kd o1 o2 o3 o4 e4 (by omega)
    rw [gSends_q _ _ _ _ _ _ _ 4 (by decide) (by decide) (by decide), gSends_q _ _ _ _ _ _ _ 11 (by decide) (by decide) (by decide), gSends_q _ _ _ _ _ _ _ 12 (by decide) (by decide) (by decide), gSends_q _ _ _ _ _ _ _ 13 (by decide) (by decide) (by decide), gSends_q _ _ _ _ _ _ _ 14 (by decide) (by decide) (by decide), gSends_q _ _ _ _ _ _ _ 15 (by decide) (by decide) (by decide), gSends_q _ _ _ _ _ _ _ 16 (by decide) (by decide) (by decide), gSends_q _ _ _ _ _ _ _ 17 (by decide) (by decide) (by decide), r1, r2, r3, r4, r5, r6, r7, r8, gSends_r _ _ _ _ _ _ _ 37 (by decide) (by decide) (by decide) (by decide) (by decide), gSends_r _ _ _ _ _ _ _ 39 (by decide) (by decide) (by decide) (by decide) (by decide), gSends_r _ _ _ _ _ _ _ 40 (by decide) (by decide) (by decide) (by decide) (by decide)]
    rw [g4, g6, g8, g5, gl5, gl8, m3k 4 (by decide), m3k 6 (by decide), m3k 8 (by decide), a8 6 (by decide), a8 8 (by decide), m16, m18, a13 8 (by decide) (by decide), v18, m32]
    have enow : μ.1 0 0 9 = a 0 1 := h1.2.1
    rw [← enow]
    refine R3_send h3 hs e4 hn hnb hb a2 (fun z hz => by rw [a3 z hz, m12]) a4 a5 a6 a7 (fun j hj => by rw [a9 j hj, m1k 4 (by decide) (by decide)]) (fun j hj => by rw [a11 j hj, m12]) (fun j hj => by rw [a14 j hj, v1k 5 (by decide) (by decide)])
  have hF' : ∀ (p : Nat → Nat → Nat → Nat) (nn : Nat → Nat), p = μ3.2 → nn = ν2.2 → RF p nn := fun p nn e1 e2 κ hκ k' i' j hk he => by
    rw [e1, e2, a12]
    have hle : ν.2 κ ≤ ν1.2 κ := by
      rcases hκ with rfl | rfl | rfl
      · rw [v26]; omega
      · rw [v2k 20 (by decide) (by decide)]; omega
      · rw [v2k 23 (by decide) (by decide)]; omega
    by_cases h5k : k' = 5
    · subst h5k
      by_cases his : i' = s
      · subst his
        have : κ = 6 := by rw [← he, heK]
        subst this
        rw [m32, v26]; exact a5 j
      · rw [m32, a11 _ his, m12]
        exact Nat.le_trans (hF κ hκ 5 i' j hk he) hle
    · rw [pp k' h5k]
      exact Nat.le_trans (hF κ hκ k' i' j hk he) hle
  have tail : ∀ (μ' : MP) (ν' : NC), (∀ k, k ≠ 2 → k ≠ 10 → k ≠ 11 → k ≠ 12 → μ'.1 k = μ3.1 k) → μ'.2 = μ3.2 → ν'.2 = ν2.2 → (∀ k, k ≠ 10 → k ≠ 11 → k ≠ 12 → k ≠ 98 → ν'.1 k = ν2.1 k) → R4 (μ'.1 2) (μ'.1 10) (μ'.1 11) (μ'.1 12) (ν'.1 10) (ν'.1 11) (ν'.1 12) (gSends a s kd o1 o2 o3 o4 19) (gSends a s kd o1 o2 o3 o4 20) (gSends a s kd o1 o2 o3 o4 21) → (¬ a 0 2 = nI 0 → gSends a s kd o1 o2 o3 o4 9 = up1 (a 9) s (a 0 1)) → RR μ' ν' (gSends a s kd o1 o2 o3 o4) := fun μ' ν' f1 f2 f3 f4 f5 f9 => by
    have gr : ∀ k, k ≠ 4 → (k < 11 ∨ 17 < k) → k ≠ 21 → k ≠ 20 → k ≠ 9 → gSends a s kd o1 o2 o3 o4 k = a k := fun k => gSends_r a s kd o1 o2 o3 o4 k
    refine ⟨?_, hF' _ _ f2 f3, ?_, ?_, ?_, f5, ?_, ?_, ?_, ?_, ?_⟩
    · unfold R0
      rw [f3, f4 30 (by decide) (by decide) (by decide) (by decide), f4 31 (by decide) (by decide) (by decide) (by decide)]
      exact h02
    · rw [gr 0 (by decide) (by decide) (by decide) (by decide) (by decide), f1 0 (by decide) (by decide) (by decide) (by decide), mm 0 (by decide) (by decide) (by decide) (by decide)]
      exact h1
    · rw [gr 0 (by decide) (by decide) (by decide) (by decide) (by decide), gr 3 (by decide) (by decide) (by decide) (by decide) (by decide), gr 5 (by decide) (by decide) (by decide) (by decide) (by decide), gr 7 (by decide) (by decide) (by decide) (by decide) (by decide), gr 8 (by decide) (by decide) (by decide) (by decide) (by decide), gr 10 (by decide) (by decide) (by decide) (by decide) (by decide), f1 1 (by decide) (by decide) (by decide) (by decide)]
      intro s' hs'
      obtain ⟨x1, x2, x3, x4, x5, x6, x7, x8⟩ := h2 s' hs'
      by_cases hss : s' = s
      · subst hss
        rw [m31s, e1, e0]
        refine ⟨(up1_n _ _ (by decide)).trans x1, (up1_n _ _ (by decide)).trans x2, (up1_n _ _ (by decide)).trans x3, (up1_n _ _ (by decide)).trans x4, (up1_n _ _ (by decide)).trans x5, fun hu => ?_, x7, x8⟩
        rw [f9 hu, up1_s, up1_s]
        exact h1.2.1
      · rw [m31 _ hss, e1]
        refine ⟨x1, x2, x3, x4, x5, fun hu => ?_, x7, x8⟩
        rw [f9 hu, up1_n _ _ hss]
        exact x6 hu
    · have := h3' μ' (f1 4 (by decide) (by decide) (by decide) (by decide)) (f1 6 (by decide) (by decide) (by decide) (by decide)) (f1 8 (by decide) (by decide) (by decide) (by decide)) (by rw [f2]) (ν'.1 5) (ν'.1 8) (f4 5 (by decide) (by decide) (by decide) (by decide)) (f4 8 (by decide) (by decide) (by decide) (by decide))
      rw [f3, a12, v26]
      exact this
    · rw [gr 5 (by decide) (by decide) (by decide) (by decide) (by decide), gr 6 (by decide) (by decide) (by decide) (by decide) (by decide), gr 18 (by decide) (by decide) (by decide) (by decide) (by decide), f1 3 (by decide) (by decide) (by decide) (by decide), f1 13 (by decide) (by decide) (by decide) (by decide), mm 3 (by decide) (by decide) (by decide) (by decide), mm 13 (by decide) (by decide) (by decide) (by decide), f4 13 (by decide) (by decide) (by decide) (by decide), vv 13 (by decide) (by decide) (by decide)]
      exact h5
    · rw [gr 0 (by decide) (by decide) (by decide) (by decide) (by decide), gr 23 (by decide) (by decide) (by decide) (by decide) (by decide), gr 24 (by decide) (by decide) (by decide) (by decide) (by decide), gr 25 (by decide) (by decide) (by decide) (by decide) (by decide), gr 26 (by decide) (by decide) (by decide) (by decide) (by decide), gr 27 (by decide) (by decide) (by decide) (by decide) (by decide), gr 28 (by decide) (by decide) (by decide) (by decide) (by decide), gr 29 (by decide) (by decide) (by decide) (by decide) (by decide), gr 30 (by decide) (by decide) (by decide) (by decide) (by decide), f1 20 (by decide) (by decide) (by decide) (by decide), f1 21 (by decide) (by decide) (by decide) (by decide), mm 20 (by decide) (by decide) (by decide) (by decide), mm 21 (by decide) (by decide) (by decide) (by decide), f3, a12, v2k 20 (by decide) (by decide)]
      refine R6_of h6 ?_ ?_ ?_
      · rw [f1 4 (by decide) (by decide) (by decide) (by decide), m3k 4 (by decide), a9 2 (by omega), m1k 4 (by decide) (by decide)]
      · rw [f2, m32, a11 2 (by omega), m12]
      · rw [f4 5 (by decide) (by decide) (by decide) (by decide), a14 2 (by omega), v1k 5 (by decide) (by decide)]
    · rw [gr 0 (by decide) (by decide) (by decide) (by decide) (by decide), gr 36 (by decide) (by decide) (by decide) (by decide) (by decide), gr 37 (by decide) (by decide) (by decide) (by decide) (by decide), gr 38 (by decide) (by decide) (by decide) (by decide) (by decide), gr 39 (by decide) (by decide) (by decide) (by decide) (by decide), gr 40 (by decide) (by decide) (by decide) (by decide) (by decide), gr 41 (by decide) (by decide) (by decide) (by decide) (by decide), gr 42 (by decide) (by decide) (by decide) (by decide) (by decide), gr 43 (by decide) (by decide) (by decide) (by decide) (by decide), f1 23 (by decide) (by decide) (by decide) (by decide), mm 23 (by decide) (by decide) (by decide) (by decide), f3, a12, v2k 23 (by decide) (by decide)]
      have hp23 : μ'.2 23 = μ.2 23 := by rw [f2]; exact pp 23 (by decide)
      rw [hp23]
      refine R7_of h7 ?_ ?_ ?_
      · rw [f1 4 (by decide) (by decide) (by decide) (by decide), m3k 4 (by decide), a9 5 (by omega), m1k 4 (by decide) (by decide)]
      · rw [f2, m32, a11 5 (by omega), m12]
      · rw [f4 5 (by decide) (by decide) (by decide) (by decide), a14 5 (by omega), v1k 5 (by decide) (by decide)]
    · have hp24 : μ'.2 24 = μ.2 24 := by rw [f2]; exact pp 24 (by decide)
      rw [gr 33 (by decide) (by decide) (by decide) (by decide) (by decide), gr 34 (by decide) (by decide) (by decide) (by decide) (by decide), hp24, f4 24 (by decide) (by decide) (by decide) (by decide), vv 24 (by decide) (by decide) (by decide), f1 25 (by decide) (by decide) (by decide) (by decide), mm 25 (by decide) (by decide) (by decide) (by decide)]
      exact h8
    · rw [gr 0 (by decide) (by decide) (by decide) (by decide) (by decide), gr 23 (by decide) (by decide) (by decide) (by decide) (by decide), gr 24 (by decide) (by decide) (by decide) (by decide) (by decide), gr 25 (by decide) (by decide) (by decide) (by decide) (by decide), gr 31 (by decide) (by decide) (by decide) (by decide) (by decide), f3, a12, v2k 20 (by decide) (by decide)]
      refine R9_of h9 (fun d hd => ?_) (fun d hd => ?_) (fun d hd => ?_)
      · rw [f1 4 (by decide) (by decide) (by decide) (by decide), m3k 4 (by decide), a9 (3 + d) (by omega), m1k 4 (by decide) (by decide)]
      · rw [f2, m32, a11 (3 + d) (by omega), m12]
      · rw [f4 5 (by decide) (by decide) (by decide) (by decide), a14 (3 + d) (by omega), v1k 5 (by decide) (by decide)]
  have hcnt : ν2.2 6 = ν.2 6 + 1 ∧ ν2.2 20 = ν.2 20 ∧ ν2.2 23 = ν.2 23 := ⟨by rw [a12, v26], by rw [a12, v2k 20 (by decide) (by decide)], by rw [a12, v2k 23 (by decide) (by decide)]⟩
  by_cases hup : a 0 2 = nI 0
  · rw [if_pos hup]
    have hg : gSends a s kd o1 o2 o3 o4 = gKeep a s kd o1 o2 o3 o4 := if_pos hup
    refine ⟨μ3, ν2, rfl, tail μ3 ν2 (fun _ _ _ _ _ => rfl) rfl rfl (fun _ _ _ _ _ => rfl) ?_ (fun h => absurd hup h), hcnt.1, hcnt.2.1, hcnt.2.2, fun c d hC => a15 _ _ (c1C c d hC)⟩
    have gk : ∀ k, k ≠ 4 → (k < 11 ∨ 17 < k) → gKeep a s kd o1 o2 o3 o4 k = a k := fun k k1 k2 => funext fun i => gKeep_k a s kd o1 o2 o3 o4 k i k1 k2
    rw [hg, gk 19 (by decide) (by decide), gk 20 (by decide) (by decide), gk 21 (by decide) (by decide), mm 2 (by decide) (by decide) (by decide) (by decide), mm 10 (by decide) (by decide) (by decide) (by decide), mm 11 (by decide) (by decide) (by decide) (by decide), mm 12 (by decide) (by decide) (by decide) (by decide), vv 10 (by decide) (by decide) (by decide), vv 11 (by decide) (by decide) (by decide), vv 12 (by decide) (by decide) (by decide)]
    exact h4
  · rw [if_neg hup]
    obtain ⟨c, e20, hc⟩ := hw hup
    have h43 : R4 (μ3.1 2) (μ3.1 10) (μ3.1 11) (μ3.1 12) (ν2.1 10) (ν2.1 11) (ν2.1 12) (a 19) (a 20) (a 21) := by
      rw [mm 2 (by decide) (by decide) (by decide) (by decide), mm 10 (by decide) (by decide) (by decide) (by decide), mm 11 (by decide) (by decide) (by decide) (by decide), mm 12 (by decide) (by decide) (by decide) (by decide), vv 10 (by decide) (by decide) (by decide), vv 11 (by decide) (by decide) (by decide), vv 12 (by decide) (by decide) (by decide)]
      exact h4
    obtain ⟨μ4, ν4, p1, p2, p3, p4, p5, p6, p7⟩ := k_put (w := w) (x := n' + 1) (f := 0) h02 h43 (show 1 - s < 2 by omega) e20 hc (by omega) (by omega) (by omega)
    rw [if_pos rfl] at p1
    rw [p1]
    have hg : gSends a s kd o1 o2 o3 o4 = gGoes (gKeep a s kd o1 o2 o3 o4) s (n' + 1) 0 := by
      show (if _ then _ else _) = _
      rw [if_neg (show ¬ a 0 2 = 0 from hup), e4, tnI (by omega)]
    have gk : ∀ k, k ≠ 4 → (k < 11 ∨ 17 < k) → gKeep a s kd o1 o2 o3 o4 k = a k := fun k k1 k2 => funext fun i => gKeep_k a s kd o1 o2 o3 o4 k i k1 k2
    have g19 : gSends a s kd o1 o2 o3 o4 19 = a 19 := gSends_r _ _ _ _ _ _ _ 19 (by decide) (by decide) (by decide) (by decide) (by decide)
    have g20 : gSends a s kd o1 o2 o3 o4 20 = up1 (a 20) (1 - s) (nI (c + 1)) := by
      rw [hg]
      funext i
      simp (disch := omega) only [gGoes, up2, up1_n, up1_s, gk 20 (by decide) (by decide), e20, tn, nI_clamp]
    have g21 : gSends a s kd o1 o2 o3 o4 21 = up1 (a 21) (65536 * (1 - s) + (tn (a 19 (1 - s)) + c) % 65536) (nI (2 * (8192 * (n' + 1) + 0))) := by
      rw [hg]
      funext i
      simp (disch := omega) only [gGoes, pl, up2, up1_n, up1_s, gk 20 (by decide) (by decide), gk 19 (by decide) (by decide), gk 21 (by decide) (by decide), e20, tn, nI_clamp]
    have g9 : gSends a s kd o1 o2 o3 o4 9 = up1 (a 9) s (a 0 1) := by
      rw [hg]
      funext i
      simp (disch := omega) only [gGoes, up2, up1_n, up1_s, gk 9 (by decide) (by decide), gk 0 (by decide) (by decide)]
    refine ⟨μ4, ν4, rfl, tail μ4 ν4 p4 p3 p5 p6 ?_ (fun _ => g9), by rw [p5]; exact hcnt.1, by rw [p5]; exact hcnt.2.1, by rw [p5]; exact hcnt.2.2, fun c d hC => p7 _ _ (a15 _ _ (c1C c d hC))⟩
    rw [g19, g20, g21]
    exact p2
