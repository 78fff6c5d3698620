/-! A message is sent: on both sides. -/
theorem msgRel_congr {r6 row : Nat → Int32} {len : Nat} {b11 b12 b13 b14 b15 b16 b17 b37 b39 b40 c11 c12 c13 c14 c15 c16 c17 c37 c39 c40 : Nat → Int32} {q n : Nat} (h : msgRel r6 row len b11 b12 b13 b14 b15 b16 b17 b37 b39 b40 q n) (e11 : c11 q = b11 q) (e12 : c12 q = b12 q) (e13 : c13 q = b13 q) (e14 : c14 q = b14 q) (e15 : c15 q = b15 q) (e16 : c16 q = b16 q) (e17 : c17 q = b17 q) (he : ∀ f t : Nat, b16 q = nI f → b17 q = nI t → f + t ≤ 100 → b11 q = nI 8 → b14 q = nI 1 → ∀ i, i < t → c37 (f + i) = b37 (f + i) ∧ c39 (f + i) = b39 (f + i) ∧ c40 (f + i) = b40 (f + i)) : msgRel r6 row len c11 c12 c13 c14 c15 c16 c17 c37 c39 c40 q n := by
  obtain ⟨h1, h2, h3, nb, fb, h4, h5, h6, h7⟩ := h
  refine ⟨h1.trans e11.symm, h2.trans e12.symm, h3.trans e13.symm, nb, fb, h4, h5, by rw [e11]; exact h6, ?_⟩
  unfold bodyR at h7 ⊢
  rw [e11, e14, e15, e16, e17]
  rcases h7 with h7 | h7 | h7 | h7 | h7 | ⟨g1, g2, g3, g4, g5, h7⟩
  · exact Or.inl h7
  · exact Or.inr (Or.inl h7)
  · exact Or.inr (Or.inr (Or.inl h7))
  · exact Or.inr (Or.inr (Or.inr (Or.inl h7)))
  · exact Or.inr (Or.inr (Or.inr (Or.inr (Or.inl h7))))
  · refine Or.inr (Or.inr (Or.inr (Or.inr (Or.inr ⟨g1, g2, g3, g4, g5, ?_⟩))))
    rcases h7 with h7 | ⟨y1, f, t, y2, y3, y4, y5, y6, y7, y8⟩ | h7
    · exact Or.inl h7
    · refine Or.inr (Or.inl ⟨y1, f, t, y2, y3, y4, y5, y6, y7, fun i hi => ?_⟩)
      obtain ⟨z1, z2, z3, z4, z5, z6, z7, z8⟩ := y8 i hi
      obtain ⟨x1, x2, x3⟩ := he f t y2 y3 y4 g1 y1 i hi
      exact ⟨z1, z2, z3, z4.trans x1.symm, z5, z6.trans x3.symm, z7, z8.trans x2.symm⟩
    · exact Or.inr (Or.inr h7)
/-- a list's add at its end -/
theorem k_add {w : Nat} {μ : MP} {ν : NC} {i p n : Nat} (h0 : R0 ν) (hi : i < 6) (hsz : μ.1 4 i 2 = nI n) (hn : n ≤ 8190) (hl : n ≤ ν.1 5 i) (hl2 : ν.1 5 i ≤ 12300) (hp0 : 0 < p) (hp : p - 1 < ν.2 (eK 5 i)) (hz : ∀ z, μ.2 5 i z ≤ ν.2 (eK 5 i)) :
    ∃ (μ' : MP) (ν' : NC), f_Jx4a65c_add_9ea2d w μ ν i p = some ((μ', ν'), 1) ∧ μ'.1 4 i 2 = nI (n + 1) ∧ (∀ z, z < n → μ'.2 5 i z = μ.2 5 i z) ∧ μ'.2 5 i n = p ∧ (∀ z, μ'.2 5 i z ≤ ν.2 (eK 5 i)) ∧ n + 1 ≤ ν'.1 5 i ∧ ν'.1 5 i ≤ 12300 ∧
      (∀ k, k ≠ 4 → μ'.1 k = μ.1 k) ∧ (∀ j, j ≠ i → μ'.1 4 j = μ.1 4 j) ∧ (∀ k, k ≠ 5 → μ'.2 k = μ.2 k) ∧ (∀ j, j ≠ i → μ'.2 5 j = μ.2 5 j) ∧ ν'.2 = ν.2 ∧ (∀ k, k ≠ 5 → k ≠ 98 → ν'.1 k = ν.1 k) ∧ (∀ j, j ≠ i → ν'.1 5 j = ν.1 5 j) ∧ ∀ c d, RC c d ν → RC c d ν' := by
  obtain ⟨-, -, -, -, z4, z5, -, -, -, -, -, -, -, -, z31, z310, -⟩ := h0
  have hc : (μ.1 4 i 2).toNatClampNeg = n := by rw [hsz, nI_clamp (by omega)]
  have hok : 0 < p ∧ lsOk μ ν i (p - 1) := ⟨hp0, by omega, by omega, by rw [hsz]; exact nIb _ (by omega), by rw [hc]; exact hl, by omega, z31, z310, hp, hz⟩
  unfold f_Jx4a65c_add_9ea2d
  rw [if_pos hok, hc]
  have fr1 : ∀ (m : Nat) (q : Nat → Nat) (k : Nat), k ≠ 4 → (lsM μ i m q).1 k = μ.1 k := fun m q k hk => by
    simp (disch := omega) only [lsM, up3, up2, up1_n]
  have fr2 : ∀ (m : Nat) (q : Nat → Nat) (j : Nat), j ≠ i → (lsM μ i m q).1 4 j = μ.1 4 j := fun m q j hj => by
    simp (disch := omega) only [lsM, up3, up2_n]
  have fr3 : ∀ (m : Nat) (q : Nat → Nat) (k : Nat), k ≠ 5 → (lsM μ i m q).2 k = μ.2 k := fun m q k hk => by
    simp (disch := omega) only [lsM, up2, up1_n]
  have fr4 : ∀ (m : Nat) (q : Nat → Nat) (j : Nat), j ≠ i → (lsM μ i m q).2 5 j = μ.2 5 j := fun m q j hj => by
    simp (disch := omega) only [lsM, up2_n]
  have e1 : ∀ (m : Nat) (q : Nat → Nat), (lsM μ i m q).1 4 i 2 = nI (m + 1) := fun m q => by
    simp (disch := omega) only [lsM, up3_s, up1_s]
  have e2 : ∀ (m : Nat) (q : Nat → Nat), (lsM μ i m q).2 5 i = q := fun m q => by
    simp (disch := omega) only [lsM, up2_s]
  have hcost : ∀ x : Nat, (ν.1 5 i < x ∧ x ≤ 5 * (x - ν.1 5 i)) → ∀ c d, RC c d ν → RC c d (chg (up2 ν.1 5 i x, ν.2) 1 x) := fun x hx c d hC => by
    obtain ⟨g1, g2⟩ := hC
    rcases (show i = 0 ∨ i = 1 ∨ i = 2 ∨ i = 3 ∨ i = 4 ∨ i = 5 by omega) with rfl | rfl | rfl | rfl | rfl | rfl
    all_goals
      refine ⟨?_, ?_⟩
      · simp (disch := omega) only [kc, chg, up2_n, up2_s] at g1 ⊢
        omega
      · simp (disch := omega) only [ks, chg, up2_n, up2_s] at g2 ⊢
        omega
  have hchg : ∀ x : Nat, (∀ k, k ≠ 5 → k ≠ 98 → (chg (up2 ν.1 5 i x, ν.2) 1 x).1 k = ν.1 k) ∧ (∀ j, j ≠ i → (chg (up2 ν.1 5 i x, ν.2) 1 x).1 5 j = ν.1 5 j) ∧ (chg (up2 ν.1 5 i x, ν.2) 1 x).1 5 i = x := fun x => ⟨fun k h1 h2 => by simp (disch := omega) only [chg, up2, up1_n], fun j hj => by simp (disch := omega) only [chg, up2_n], by simp (disch := omega) only [chg, up2_n, up2_s]⟩
  by_cases c1 : n < ν.1 5 i
  · rw [if_pos c1]
    refine ⟨_, ν, rfl, e1 _ _, fun z hz' => ?_, ?_, fun z => ?_, by omega, hl2, fr1 _ _, fr2 _ _, fr3 _ _, fr4 _ _, rfl, fun _ _ _ => rfl, fun _ _ => rfl, fun _ _ h => h⟩
    · rw [e2]; exact up1_n _ _ (by omega)
    · rw [e2]; exact up1_s _ _ _
    · rw [e2]
      by_cases hzn : z = n
      · subst hzn; rw [up1_s]; omega
      · rw [up1_n _ _ hzn]; exact hz z
  · rw [if_neg c1]
    by_cases c2 : ν.1 5 i = 0
    · obtain rfl : n = 0 := by omega
      rw [if_pos c2]
      obtain ⟨y1, y2, y3⟩ := hchg 10
      refine ⟨_, _, rfl, e1 _ _, fun z hz' => by omega, ?_, fun z => ?_, by rw [y3]; omega, by rw [y3]; omega, fr1 _ _, fr2 _ _, fr3 _ _, fr4 _ _, rfl, y1, y2, hcost 10 (by omega)⟩
      · rw [e2]; exact up1_s _ _ _
      · rw [e2]
        by_cases hzn : z = 0
        · subst hzn; rw [up1_s]; omega
        · rw [up1_n _ _ hzn]; exact Nat.zero_le _
    · rw [if_neg c2]
      have hnl : ν.1 5 i = n := by omega
      have hK : 1 ≤ lsK ν i ∧ lsK ν i ≤ n / 2 + 1 ∧ n / 2 ≤ lsK ν i := by
        unfold lsK
        rw [hnl]
        split <;> omega
      obtain ⟨y1, y2, y3⟩ := hchg (ν.1 5 i + lsK ν i)
      refine ⟨_, _, rfl, by rw [e1, hnl], fun z hz' => ?_, ?_, fun z => ?_, by rw [y3]; omega, by rw [y3]; omega, fr1 _ _, fr2 _ _, fr3 _ _, fr4 _ _, rfl, y1, y2, hcost _ (by omega)⟩
      · rw [e2, hnl, up1_n _ _ (by omega)]
        unfold lsG
        rw [if_pos (by omega)]
      · rw [e2, hnl]; exact up1_s _ _ _
      · rw [e2]
        by_cases hzn : z = ν.1 5 i
        · subst hzn; rw [up1_s]; omega
        · rw [up1_n _ _ hzn]
          unfold lsG
          split
          · exact hz z
          · exact Nat.zero_le _
theorem R6_of {m4 m4' : Nat → Nat → Int32} {p5 p5' : Nat → Nat → Nat} {l5 l5' : Nat → Nat} {n20 : Nat} {m20 m21 : Nat → Nat → Int32} {x22 : Int32} {b23 b24 b25 b26 b27 b28 b29 b30 : Nat → Int32} (h : R6 m4 p5 l5 n20 m20 m21 x22 b23 b24 b25 b26 b27 b28 b29 b30) (e1 : m4' 2 = m4 2) (e2 : p5' 2 = p5 2) (e3 : l5' 2 = l5 2) : R6 m4' p5' l5' n20 m20 m21 x22 b23 b24 b25 b26 b27 b28 b29 b30 := by
  unfold R6 at h ⊢
  rw [e1, e2, e3]; exact h
theorem R7_of {m4 m4' : Nat → Nat → Int32} {p5 p5' p23 : Nat → Nat → Nat} {l5 l5' : Nat → Nat} {n23 : Nat} {m23 : Nat → Nat → Int32} {x22 x35 : Int32} {b36 b37 b38 b39 b40 b41 b42 b43 : Nat → Int32} (h : R7 m4 p5 p23 l5 n23 m23 x22 x35 b36 b37 b38 b39 b40 b41 b42 b43) (e1 : m4' 5 = m4 5) (e2 : p5' 5 = p5 5) (e3 : l5' 5 = l5 5) : R7 m4' p5' p23 l5' n23 m23 x22 x35 b36 b37 b38 b39 b40 b41 b42 b43 := by
  unfold R7 at h ⊢
  rw [e1, e2, e3]; exact h
theorem R9_of {m4 m4' : Nat → Nat → Int32} {p5 p5' : Nat → Nat → Nat} {l5 l5' : Nat → Nat} {n20 : Nat} {x22 x32 : Int32} {b23 b24 b25 b31 : Nat → Int32} (h : R9 m4 p5 l5 n20 x22 x32 b23 b24 b25 b31) (e1 : ∀ d, d < 2 → m4' (3 + d) = m4 (3 + d)) (e2 : ∀ d, d < 2 → p5' (3 + d) = p5 (3 + d)) (e3 : ∀ d, d < 2 → l5' (3 + d) = l5 (3 + d)) : R9 m4' p5' l5' n20 x22 x32 b23 b24 b25 b31 := fun d hd => by
  have := h d hd
  rw [e1 d hd, e2 d hd, e3 d hd]; exact this
theorem gSends_r (a : AS) (s : Nat) (kd o1 o2 o3 o4 : Int32) (k : Nat) (h : k ≠ 4) (h1 : k < 11 ∨ 17 < k) (h2 : k ≠ 21) (h3 : k ≠ 20) (h4 : k ≠ 9) : gSends a s kd o1 o2 o3 o4 k = a k := funext fun i => gSends_k a s kd o1 o2 o3 o4 k i h h1 h2 h3 h4
theorem gGoes_r (a : AS) (s n f k : Nat) (h1 : k ≠ 21) (h2 : k ≠ 20) (h3 : k ≠ 9) : gGoes a s n f k = a k := funext fun i => gGoes_k a s n f k i h1 h2 h3
theorem gSends_q (a : AS) (s : Nat) (kd o1 o2 o3 o4 : Int32) (k : Nat) (h2 : k ≠ 21) (h3 : k ≠ 20) (h4 : k ≠ 9) : gSends a s kd o1 o2 o3 o4 k = gKeep a s kd o1 o2 o3 o4 k := by
  unfold gSends
  split
  · rfl
  · exact gGoes_r _ _ _ _ _ h2 h3 h4
theorem gKeep_rows (a : AS) (s n : Nat) (kd o1 o2 o3 o4 : Int32) (e : a 4 s = nI n) (hn : n < 2 ^ 31) : gKeep a s kd o1 o2 o3 o4 4 = up1 (a 4) s (nI (n + 1)) ∧ gKeep a s kd o1 o2 o3 o4 11 = up1 (a 11) (8192 * s + (n + 1)) kd ∧ gKeep a s kd o1 o2 o3 o4 12 = up1 (a 12) (8192 * s + (n + 1)) (a 0 1) ∧ gKeep a s kd o1 o2 o3 o4 13 = up1 (a 13) (8192 * s + (n + 1)) (nI 0) ∧ gKeep a s kd o1 o2 o3 o4 14 = up1 (a 14) (8192 * s + (n + 1)) o1 ∧ gKeep a s kd o1 o2 o3 o4 15 = up1 (a 15) (8192 * s + (n + 1)) o2 ∧ gKeep a s kd o1 o2 o3 o4 16 = up1 (a 16) (8192 * s + (n + 1)) o3 ∧ gKeep a s kd o1 o2 o3 o4 17 = up1 (a 17) (8192 * s + (n + 1)) o4 := by
  refine ⟨?_, ?_, ?_, ?_, ?_, ?_, ?_, ?_⟩ <;> funext i <;> simp (disch := omega) only [gKeep, e, up2, up1_n, up1_s, yl, cond_true, cond_false, Option.bind_some, ixn, nI_clamp, nI_add, pk_mul, pk_sub, pk_rem, pk_div, up2_s, up2_n, up1_s, up1_n, mdn, nar0, nar1, q0, q1, q2, q3, q4, q5, q6, q7, q8, q10, q15, q20, q25, q40, q50, q80, q100, q200, q256, q8192, q16384, q65536]
theorem R3_send {m4 m4' : Nat → Nat → Int32} {p5 p5' : Nat → Nat → Nat} {m6 m8 : Nat → Nat → Int32} {l5 l5' l8 : Nat → Nat} {n6 s n nb : Nat} {fb : Nat → Int32} {kd o1 o2 o3 o4 nw : Int32} {b4 b11 b12 b13 b14 b15 b16 b17 b37 b39 b40 : Nat → Int32} (h : R3 m4 p5 m6 m8 l5 l8 n6 b4 b11 b12 b13 b14 b15 b16 b17 b37 b39 b40) (hs : s < 2) (e4 : b4 s = nI n) (hn : n + 1 ≤ 8190) (hnb : nb ≤ 806) (hb : bodyR (fun _ => kd) (fun _ => o1) (fun _ => o2) (fun _ => o3) (fun _ => o4) b37 b39 b40 0 nb fb)
    (g1 : m4' s 2 = nI (n + 1)) (g2 : ∀ z, z < n → p5' s z = p5 s z) (g3 : p5' s n = n6 + 1) (g4 : ∀ z, p5' s z ≤ n6 + 1) (g5 : n + 1 ≤ l5' s) (g6 : l5' s ≤ 12300) (g7 : ∀ j, j ≠ s → m4' j = m4 j) (g8 : ∀ j, j ≠ s → p5' j = p5 j) (g9 : ∀ j, j ≠ s → l5' j = l5 j) :
    R3 m4' p5' (up1 m6 n6 (mF kd nw)) (up1 m8 n6 (msgF kd (nI (n + 1)) nb fb)) l5' (up1 l8 n6 (nb + 6)) (n6 + 1) (up1 b4 s (nI (n + 1))) (up1 b11 (8192 * s + (n + 1)) kd) (up1 b12 (8192 * s + (n + 1)) nw) (up1 b13 (8192 * s + (n + 1)) (nI 0)) (up1 b14 (8192 * s + (n + 1)) o1) (up1 b15 (8192 * s + (n + 1)) o2) (up1 b16 (8192 * s + (n + 1)) o3) (up1 b17 (8192 * s + (n + 1)) o4) b37 b39 b40 := by
  obtain ⟨h1, h2⟩ := h
  have old : ∀ s' i m : Nat, s' < 2 → i < 8190 → ¬ (s' = s ∧ i = n) → m < n6 → msgRel (m6 m) (m8 m) (l8 m) b11 b12 b13 b14 b15 b16 b17 b37 b39 b40 (8192 * s' + (i + 1)) (i + 1) → msgRel (up1 m6 n6 (mF kd nw) m) (up1 m8 n6 (msgF kd (nI (n + 1)) nb fb) m) (up1 l8 n6 (nb + 6) m) (up1 b11 (8192 * s + (n + 1)) kd) (up1 b12 (8192 * s + (n + 1)) nw) (up1 b13 (8192 * s + (n + 1)) (nI 0)) (up1 b14 (8192 * s + (n + 1)) o1) (up1 b15 (8192 * s + (n + 1)) o2) (up1 b16 (8192 * s + (n + 1)) o3) (up1 b17 (8192 * s + (n + 1)) o4) b37 b39 b40 (8192 * s' + (i + 1)) (i + 1) := fun s' i m hs' hi hne hm hr => by
    have hq : 8192 * s' + (i + 1) ≠ 8192 * s + (n + 1) := by omega
    rw [up1_n _ _ (show m ≠ n6 by omega), up1_n _ _ (show m ≠ n6 by omega), up1_n _ _ (show m ≠ n6 by omega)]
    exact msgRel_congr hr (up1_n _ _ hq) (up1_n _ _ hq) (up1_n _ _ hq) (up1_n _ _ hq) (up1_n _ _ hq) (up1_n _ _ hq) (up1_n _ _ hq) (fun _ _ _ _ _ _ _ _ _ => ⟨rfl, rfl, rfl⟩)
  refine ⟨fun s' hs' => ?_, fun s' s2 i i2 hs' hs2 hi hi2 he => ?_⟩
  · obtain ⟨y1, n', y2, y3, y4, y5, y6, y7⟩ := h1 s' hs'
    by_cases hss : s' = s
    · subst hss
      have hnn : n' = n := (nI_eq (by omega) (by omega)).mp (y2.symm.trans e4)
      subst hnn
      refine ⟨by rw [up1_s]; exact g1, n' + 1, up1_s _ _ _, hn, g5, g6, g4, fun i hi => ?_⟩
      by_cases hin : i = n'
      · subst hin
        refine ⟨n6, g3, by omega, ?_⟩
        rw [up1_s, up1_s, up1_s]
        refine ⟨by rw [up1_s]; rfl, by rw [up1_s]; rfl, by rw [up1_s]; rfl, nb, fb, rfl, by omega, fun j _ => by rw [up1_s], ?_⟩
        unfold bodyR at hb ⊢
        rw [up1_s, up1_s, up1_s, up1_s, up1_s]
        exact hb
      · obtain ⟨m, x1, x2, x3⟩ := y7 i (by omega)
        exact ⟨m, (g2 i (by omega)).trans x1, by omega, old _ _ _ hs' (by omega) (by omega) x2 x3⟩
    · rw [g7 _ hss, g8 _ hss, g9 _ hss, up1_n _ _ hss]
      refine ⟨y1, n', y2, y3, y4, y5, fun z => Nat.le_succ_of_le (y6 z), fun i hi => ?_⟩
      obtain ⟨m, x1, x2, x3⟩ := y7 i hi
      exact ⟨m, x1, by omega, old _ _ _ hs' (by omega) (by omega) x2 x3⟩
  · have tl : ∀ z : Nat, z < 2 → ∃ n', b4 z = nI n' ∧ n' ≤ 8190 ∧ (∀ i, i < n' → p5 z i ≤ n6) := fun z hz => by
      obtain ⟨y1, n', y2, y3, y4, y5, y6, y7⟩ := h1 z hz
      exact ⟨n', y2, y3, fun i _ => y6 i⟩
    have cs : ∀ z i : Nat, z < 2 → i < tn (up1 b4 s (nI (n + 1)) z) → (z = s ∧ i = n ∧ p5' z i = n6 + 1) ∨ (i < tn (b4 z) ∧ p5' z i = p5 z i ∧ p5 z i ≤ n6) := fun z i hz hi => by
      obtain ⟨n', q1, q2, q3⟩ := tl z hz
      by_cases hzs : z = s
      · subst hzs
        rw [up1_s, tnI (by omega)] at hi
        by_cases hin : i = n
        · subst hin; exact Or.inl ⟨rfl, rfl, g3⟩
        · rw [e4, tnI (by omega)]
          have : n' = n := (nI_eq (by omega) (by omega)).mp (q1.symm.trans e4)
          exact Or.inr ⟨by omega, g2 i (by omega), q3 i (by omega)⟩
      · rw [up1_n _ _ hzs] at hi
        rw [q1, tnI (by omega)] at hi ⊢
        exact Or.inr ⟨hi, by rw [g8 _ hzs], q3 i hi⟩
    rcases cs s' i hs' hi with ⟨a1, a2, a3⟩ | ⟨a1, a2, a3⟩ <;> rcases cs s2 i2 hs2 hi2 with ⟨c1, c2, c3⟩ | ⟨c1, c2, c3⟩
    · exact ⟨a1.trans c1.symm, a2.trans c2.symm⟩
    · omega
    · omega
    · exact h2 s' s2 i i2 hs' hs2 a1 c1 (by omega)
theorem k_party {w : Nat} {μ : MP} {ν : NC} {s : Nat} (h0 : R0 ν) (hs : s < 2) : f_X8_party w μ ν (nI s) = some (s + 1) := by
  have n01 : ¬ nI 0 = nI 1 := by decide
  rcases (show s = 0 ∨ s = 1 by omega) with rfl | rfl
  · simp (disch := omega) only [f_X8_party, q1, n01, ltt h0.1, cond_true, if_false]
  · simp (disch := omega) only [f_X8_party, q1, ltt h0.1, cond_true, if_true]
theorem k_other {w : Nat} {μ : MP} {ν : NC} {s : Nat} (hs : s < 2) : f_X8_otherSide w μ ν (nI s) = some (nI (1 - s)) := by
  have n01 : ¬ nI 0 = nI 1 := by decide
  rcases (show s = 0 ∨ s = 1 by omega) with rfl | rfl
  · simp (disch := omega) only [f_X8_otherSide, q1, q0, n01, if_false]
  · simp (disch := omega) only [f_X8_otherSide, q1, q0, if_true]
