/-! Ranking: the class against the reference. -/
theorem k_rem {w : Nat} {μ : MP} {ν : NC} {i n x : Nat} (h0 : R0 ν) (hi : i < 6) (hsz : μ.1 4 i 2 = nI n) (hn : n ≤ 8190) (hl : n ≤ ν.1 5 i) (hl2 : ν.1 5 i ≤ 12300) (hx : x < n) (hp : 0 < μ.2 5 i x) (hc : 0 < ν.2 (eK 5 i)) (hz : ∀ z, μ.2 5 i z ≤ ν.2 (eK 5 i)) :
    ∃ μ' : MP, f_Jx4a65c_remove_915e3 w μ ν i (nI x) = some ((μ', ν), μ.2 5 i x) ∧ μ'.1 4 i 2 = nI (n - 1) ∧ (∀ z, z < n - 1 → μ'.2 5 i z = if z < x then μ.2 5 i z else μ.2 5 i (z + 1)) ∧ (∀ z, μ'.2 5 i z ≤ ν.2 (eK 5 i)) ∧
      (∀ k, k ≠ 4 → μ'.1 k = μ.1 k) ∧ (∀ j, j ≠ i → μ'.1 4 j = μ.1 4 j) ∧ (∀ k, k ≠ 5 → μ'.2 k = μ.2 k) ∧ (∀ j, j ≠ i → μ'.2 5 j = μ.2 5 j) := by
  obtain ⟨-, -, -, -, z4, z5, -, -, -, -, -, -, -, -, z31, z310, -⟩ := h0
  have hcl : (μ.1 4 i 2).toNatClampNeg = n := by rw [hsz, nI_clamp (by omega)]
  have hok : lsOk μ ν i 0 ∧ ¬ nI x < 0 ∧ (nI x).toNatClampNeg < (μ.1 4 i 2).toNatClampNeg ∧ 0 < μ.2 5 i (nI x).toNatClampNeg := by
    rw [hcl, nI_clamp (by omega)]
    exact ⟨⟨by omega, by omega, by rw [hsz]; exact nIb _ (by omega), by rw [hcl]; exact hl, by omega, z31, z310, hc, hz⟩, nIb _ (by omega), hx, hp⟩
  unfold f_Jx4a65c_remove_915e3
  rw [if_pos hok, hcl, nI_clamp (by omega)]
  refine ⟨_, rfl, ?_, fun z hz' => ?_, fun z => ?_, fun k hk => ?_, fun j hj => ?_, fun k hk => ?_, fun j hj => ?_⟩
  · simp (disch := omega) only [up3_s, up1_s]
  · simp (disch := omega) only [up2_s]
    unfold rmP
    rw [if_neg (show ¬ z = n - 1 by omega)]
    by_cases c : z < x
    · rw [if_pos c, if_neg (by omega)]
    · rw [if_neg c, if_pos (by omega)]
  · simp (disch := omega) only [up2_s]
    unfold rmP
    repeat' split
    all_goals first | exact hz _ | exact Nat.zero_le _
  · simp (disch := omega) only [up3, up2, up1_n]
  · simp (disch := omega) only [up3, up2_n]
  · simp (disch := omega) only [up2, up1_n]
  · simp (disch := omega) only [up2_n]
theorem k_ins {w : Nat} {μ : MP} {ν : NC} {i p n x : Nat} (h0 : R0 ν) (hi : i < 6) (hsz : μ.1 4 i 2 = nI n) (hn : n ≤ 8190) (hl : n ≤ ν.1 5 i) (hl2 : ν.1 5 i ≤ 12300) (hx : x ≤ n) (hp0 : 0 < p) (hp : p - 1 < ν.2 (eK 5 i)) (hz : ∀ z, μ.2 5 i z ≤ ν.2 (eK 5 i)) :
    ∃ (μ' : MP) (ν' : NC), f_Jx4a65c_add_7a177 w μ ν i (nI x) p = some ((μ', ν'), 0) ∧ μ'.1 4 i 2 = nI (n + 1) ∧ (∀ z, z < n + 1 → μ'.2 5 i z = if z < x then μ.2 5 i z else if z = x then p else μ.2 5 i (z - 1)) ∧ (∀ z, μ'.2 5 i z ≤ ν.2 (eK 5 i)) ∧ n + 1 ≤ ν'.1 5 i ∧ ν'.1 5 i ≤ 12300 ∧
      (∀ k, k ≠ 4 → μ'.1 k = μ.1 k) ∧ (∀ j, j ≠ i → μ'.1 4 j = μ.1 4 j) ∧ (∀ k, k ≠ 5 → μ'.2 k = μ.2 k) ∧ (∀ j, j ≠ i → μ'.2 5 j = μ.2 5 j) ∧ ν'.2 = ν.2 ∧ (∀ k, k ≠ 5 → k ≠ 98 → ν'.1 k = ν.1 k) ∧ (∀ j, j ≠ i → ν'.1 5 j = ν.1 5 j) ∧ ∀ c d, RC c d ν → RC c d ν' := by
  obtain ⟨-, -, -, -, z4, z5, -, -, -, -, -, -, -, -, z31, z310, -⟩ := h0
  have hc : (μ.1 4 i 2).toNatClampNeg = n := by rw [hsz, nI_clamp (by omega)]
  have hok : 0 < p ∧ lsOk μ ν i (p - 1) ∧ ¬ nI x < 0 ∧ (nI x).toNatClampNeg ≤ (μ.1 4 i 2).toNatClampNeg := by
    rw [hc, nI_clamp (by omega)]
    exact ⟨hp0, ⟨by omega, by omega, by rw [hsz]; exact nIb _ (by omega), by rw [hc]; exact hl, by omega, z31, z310, hp, hz⟩, nIb _ (by omega), hx⟩
  unfold f_Jx4a65c_add_7a177
  rw [if_pos hok, hc, nI_clamp (by omega)]
  have fr1 : ∀ (m : Nat) (q : Nat → Nat) (k : Nat), k ≠ 4 → (lsM μ i m q).1 k = μ.1 k := fun m q k hk => by
    simp (disch := omega) only [lsM, up3, up2, up1_n]
  have fr2 : ∀ (m : Nat) (q : Nat → Nat) (j : Nat), j ≠ i → (lsM μ i m q).1 4 j = μ.1 4 j := fun m q j hj => by
    simp (disch := omega) only [lsM, up3, up2_n]
  have fr3 : ∀ (m : Nat) (q : Nat → Nat) (k : Nat), k ≠ 5 → (lsM μ i m q).2 k = μ.2 k := fun m q k hk => by
    simp (disch := omega) only [lsM, up2, up1_n]
  have fr4 : ∀ (m : Nat) (q : Nat → Nat) (j : Nat), j ≠ i → (lsM μ i m q).2 5 j = μ.2 5 j := fun m q j hj => by
    simp (disch := omega) only [lsM, up2_n]
  have e1 : ∀ (m : Nat) (q : Nat → Nat), (lsM μ i m q).1 4 i 2 = nI (m + 1) := fun m q => by
    simp (disch := omega) only [lsM, up3_s, up1_s]
  have e2 : ∀ (m : Nat) (q : Nat → Nat), (lsM μ i m q).2 5 i = q := fun m q => by
    simp (disch := omega) only [lsM, up2_s]
  have hcost : ∀ x : Nat, (ν.1 5 i < x ∧ x ≤ 5 * (x - ν.1 5 i)) → ∀ c d, RC c d ν → RC c d (chg (up2 ν.1 5 i x, ν.2) 1 x) := fun x hx c d hC => by
    obtain ⟨g1, g2⟩ := hC
    rcases (show i = 0 ∨ i = 1 ∨ i = 2 ∨ i = 3 ∨ i = 4 ∨ i = 5 by omega) with rfl | rfl | rfl | rfl | rfl | rfl
    all_goals
      refine ⟨?_, ?_⟩
      · simp (disch := omega) only [kc, chg, up2_n, up2_s] at g1 ⊢
        omega
      · simp (disch := omega) only [ks, chg, up2_n, up2_s] at g2 ⊢
        omega
  have hchg : ∀ x : Nat, (∀ k, k ≠ 5 → k ≠ 98 → (chg (up2 ν.1 5 i x, ν.2) 1 x).1 k = ν.1 k) ∧ (∀ j, j ≠ i → (chg (up2 ν.1 5 i x, ν.2) 1 x).1 5 j = ν.1 5 j) ∧ (chg (up2 ν.1 5 i x, ν.2) 1 x).1 5 i = x := fun x => ⟨fun k h1 h2 => by simp (disch := omega) only [chg, up2, up1_n], fun j hj => by simp (disch := omega) only [chg, up2_n], by simp (disch := omega) only [chg, up2_n, up2_s]⟩
  have hin : ∀ (q : Nat → Nat) (z : Nat), z < n + 1 → (∀ y, y < n → q y = μ.2 5 i y) → inP q x n p z = if z < x then μ.2 5 i z else if z = x then p else μ.2 5 i (z - 1) := fun q z hz1 hq => by
    unfold inP
    by_cases c1 : z < x
    · rw [if_pos c1, if_neg (by omega), if_neg (by omega), hq z (by omega)]
    · rw [if_neg c1]
      by_cases c2 : z = x
      · rw [if_pos c2, if_pos c2]
      · rw [if_neg c2, if_neg c2, if_pos (by omega), hq _ (by omega)]
  have hib : ∀ (q : Nat → Nat) (z m : Nat), (∀ y, q y ≤ ν.2 (eK 5 i)) → inP q x m p z ≤ ν.2 (eK 5 i) := fun q z m hq => by
    unfold inP
    repeat' split
    · omega
    · exact hq _
    · exact hq _
  by_cases c1 : n < ν.1 5 i
  · rw [if_pos c1]
    refine ⟨_, ν, rfl, e1 _ _, fun z hz' => ?_, fun z => ?_, by omega, hl2, fr1 _ _, fr2 _ _, fr3 _ _, fr4 _ _, rfl, fun _ _ _ => rfl, fun _ _ => rfl, fun _ _ h => h⟩
    · rw [e2]; exact hin _ z hz' (fun _ _ => rfl)
    · rw [e2]; exact hib _ z _ hz
  · rw [if_neg c1]
    by_cases c2 : ν.1 5 i = 0
    · obtain rfl : n = 0 := by omega
      obtain rfl : x = 0 := by omega
      rw [if_pos c2]
      obtain ⟨y1, y2, y3⟩ := hchg 10
      refine ⟨_, _, rfl, e1 _ _, fun z hz' => ?_, fun z => ?_, by rw [y3]; omega, by rw [y3]; omega, fr1 _ _, fr2 _ _, fr3 _ _, fr4 _ _, rfl, y1, y2, hcost 10 (by omega)⟩
      · rw [e2]; exact hin _ z hz' (fun y hy => by omega)
      · rw [e2]; exact hib _ z _ (fun _ => Nat.zero_le _)
    · rw [if_neg c2]
      have hnl : ν.1 5 i = n := by omega
      have hK : 1 ≤ lsK ν i ∧ lsK ν i ≤ n / 2 + 1 ∧ n / 2 ≤ lsK ν i := by
        unfold lsK
        rw [hnl]
        split <;> omega
      obtain ⟨y1, y2, y3⟩ := hchg (ν.1 5 i + lsK ν i)
      have hg : ∀ y, y < n → lsG μ ν i y = μ.2 5 i y := fun y hy => by
        unfold lsG
        rw [if_pos (by omega)]
      refine ⟨_, _, rfl, by rw [e1, hnl], fun z hz' => ?_, fun z => ?_, by rw [y3]; omega, by rw [y3]; omega, fr1 _ _, fr2 _ _, fr3 _ _, fr4 _ _, rfl, y1, y2, hcost _ (by omega)⟩
      · rw [e2, hnl]; exact hin _ z hz' hg
      · rw [e2]
        refine hib _ z _ (fun y => ?_)
        unfold lsG
        split
        · exact hz y
        · exact Nat.zero_le _
/-- so many different ones below N -/
theorem pig : ∀ (N k : Nat) (P : Nat → Nat), (∀ i, i < k → P i < N) → (∀ i j, i < j → j < k → P i ≠ P j) → k ≤ N := by
  intro N
  induction N with
  | zero =>
    intro k P h1 _
    by_cases hk : 0 < k
    · exact absurd (h1 0 hk) (Nat.not_lt_zero _)
    · omega
  | succ N ih =>
    intro k P h1 h2
    by_cases hc : ∃ i, i < k ∧ P i = N
    · obtain ⟨i0, c1, c2⟩ := hc
      have h3 : ∀ i, i < k → i ≠ i0 → P i < N := fun i hi hne => by
        have := h1 i hi
        have hne' : P i ≠ N := fun e => by
          rcases Nat.lt_or_ge i i0 with c | c
          · exact h2 i i0 c c1 (e.trans c2.symm)
          · exact h2 i0 i (by omega) hi (c2.trans e.symm)
        omega
      have := ih (k - 1) (fun i => if i < i0 then P i else P (i + 1)) (fun i hi => by
        show (if i < i0 then P i else P (i + 1)) < N
        split
        · exact h3 i (by omega) (by omega)
        · exact h3 (i + 1) (by omega) (by omega)) (fun i j hij hj => by
        show (if i < i0 then P i else P (i + 1)) ≠ (if j < i0 then P j else P (j + 1))
        split <;> split
        · exact h2 i j hij (by omega)
        · exact h2 i (j + 1) (by omega) (by omega)
        · omega
        · exact h2 (i + 1) (j + 1) (by omega) (by omega))
      omega
    · have := ih k P (fun i hi => by
        have := h1 i hi
        have hne : P i ≠ N := fun e => hc ⟨i, hi, e⟩
        omega) h2
      omega
/-- whether o has a better price than o' at the house -/
abbrev betR (b23 b25 : Nat → Int32) (o o' : Nat) : Prop := if b23 o = nI 0 then ¬ b25 (40 + o) ≤ b25 (40 + o') else ¬ b25 (40 + o') ≤ b25 (40 + o)
theorem k_hbp {w : Nat} {μ : MP} {ν : NC} {b23 b25 : Nat → Int32} {o o' n : Nat} (h20 : ν.2 20 = n) (h21 : ν.2 21 = 2 * ν.2 20) (hb : ∀ o, o < n → μ.1 20 o 1 = b23 o ∧ μ.1 21 (2 * o + 1) 0 = b25 (40 + o)) (ho : o < n) (ho' : o' < n) : f_X4_hasBetterPriceThan w μ ν o (o' + 1) = some (if betR b23 b25 o o' then nI 1 else nI 0) := by
  unfold f_X4_hasBetterPriceThan
  rw [ltt (show o < ν.2 20 by omega), nzs, Nat.add_sub_cancel, ltt (show o' < ν.2 20 by omega), ltt (show 2 * o + 1 < ν.2 21 by omega), ltt (show 2 * o' + 1 < ν.2 21 by omega), (hb o ho).1, (hb o ho).2, (hb o' ho').2, q0, q1]
  simp only [cond_true]
  by_cases c1 : b23 o = nI 0
  · have hb' : betR b23 b25 o o' ↔ ¬ b25 (40 + o) ≤ b25 (40 + o') := by unfold betR; rw [if_pos c1]
    rw [if_pos c1]
    by_cases c2 : b25 (40 + o) ≤ b25 (40 + o')
    · rw [if_pos c2, if_neg (fun h => hb'.mp h c2)]
    · rw [if_neg c2, if_pos (hb'.mpr c2)]
  · have hb' : betR b23 b25 o o' ↔ ¬ b25 (40 + o') ≤ b25 (40 + o) := by unfold betR; rw [if_neg c1]
    rw [if_neg c1]
    by_cases c2 : b25 (40 + o') ≤ b25 (40 + o)
    · rw [if_pos c2, if_neg (fun h => hb'.mp h c2)]
    · rw [if_neg c2, if_pos (hb'.mpr c2)]
/-- a list of rank in which order o, perhaps, is out of place -/
def W9 (m : Nat → Int32) (P : Nat → Nat) (l n20 cnt : Nat) (b23 b24 b25 b31 : Nat → Int32) (o d k : Nat) : Prop := m 2 = nI k ∧ k ≤ 40 ∧ k ≤ l ∧ l ≤ 12300 ∧ (∀ z, P z ≤ n20) ∧ (∀ i, i < k → ∃ o', P i = o' + 1 ∧ o' < cnt ∧ (o' ≠ o → b24 (40 + o') ≠ nI 0 ∧ b23 o' = nI d)) ∧ (∀ o', o' < cnt → o' ≠ o → b24 (40 + o') ≠ nI 0 → b23 o' = nI d → ∃ i, i < k ∧ P i = o' + 1) ∧ (∀ i j, i < j → j < k → P i ≠ P j) ∧ ∀ i j, i < j → j < k → P i ≠ o + 1 → P j ≠ o + 1 → aheadR b23 b25 b31 (P i - 1) (P j - 1)
theorem k_rank11 {w : Nat} {ν : NC} {b23 b24 b25 b31 : Nat → Int32} {o d n k : Nat} {μ : MP} (h0 : R0 ν) (hd : d < 2) (h20 : ν.2 20 = n) (hn : n ≤ 40) (ho : o < n) (hW : W9 (μ.1 4 (3 + d)) (μ.2 5 (3 + d)) (ν.1 5 (3 + d)) (ν.2 20) n b23 b24 b25 b31 o d k) : ∀ (g m j : Nat), j + g = k → (∀ i, i < j → μ.2 5 (3 + d) i ≠ o + 1) → ∃ (μ' : MP) (k' : Nat), l_X8_rankBehindItsPrice_11 w (g + 1 + m) μ ν (o + 1) (3 + d + 1) (nI j) = b_X8_rankBehindItsPrice_43 w μ' ν (o + 1) (3 + d + 1) ∧ W9 (μ'.1 4 (3 + d)) (μ'.2 5 (3 + d)) (ν.1 5 (3 + d)) (ν.2 20) n b23 b24 b25 b31 o d k' ∧ (∀ i, i < k' → μ'.2 5 (3 + d) i ≠ o + 1) ∧ (∀ k, k ≠ 4 → μ'.1 k = μ.1 k) ∧ (∀ j, j ≠ 3 + d → μ'.1 4 j = μ.1 4 j) ∧ (∀ k, k ≠ 5 → μ'.2 k = μ.2 k) ∧ (∀ j, j ≠ 3 + d → μ'.2 5 j = μ.2 5 j) := by
  have z0 := h0.1
  have z4 := h0.2.2.2.2.1
  have eKK : eK 5 (3 + d) = 20 := by rcases (show d = 0 ∨ d = 1 by omega) with rfl | rfl <;> rfl
  obtain ⟨w1, w2, w3, w4, w5, w6, w7, w8, w9⟩ := id hW
  intro g
  induction g with
  | zero =>
    intro m j hj hno
    refine ⟨μ, k, ?_, hW, fun i hi => hno i (by omega), fun _ _ => rfl, fun _ _ => rfl, fun _ _ => rfl, fun _ _ => rfl⟩
    rw [show 0 + 1 + m = m + 1 by omega]
    show b_X8_rankBehindItsPrice_11 _ w μ ν _ _ _ = _
    unfold b_X8_rankBehindItsPrice_11
    rw [nzs, Nat.add_sub_cancel, ltt (show 3 + d < ν.2 4 by omega), w1, if_pos ((nI_leI (by omega) (by omega)).mpr (by omega))]
    rfl
  | succ g ih =>
    intro m j hj hno
    obtain ⟨o', p1, p2, p3⟩ := w6 j (by omega)
    have hget := k_get (i := 3 + d) (n := k) (x := j) (p := o') h0 (by omega) w1 (by omega) w3 w4 (by omega) p1 (by rw [eKK]; omega)
    have hstep : ∀ q, l_X8_rankBehindItsPrice_11 w (q + 1) μ ν (o + 1) (3 + d + 1) (nI j) = b_X8_rankBehindItsPrice_11 (l_X8_rankBehindItsPrice_11 w q) w μ ν (o + 1) (3 + d + 1) (nI j) := fun q => rfl
    have hpre : ∀ (K : MP → NC → Nat → Nat → Int32 → Option ((MP × NC) × Int32)), b_X8_rankBehindItsPrice_11 K w μ ν (o + 1) (3 + d + 1) (nI j) = if o' = o then (f_Jx4a65c_remove_915e3 w μ ν (3 + d) (nI j)).bind (fun v27 => b_X8_rankBehindItsPrice_34 w v27.1.1 v27.1.2 (o + 1) (3 + d + 1)) else K μ ν (o + 1) (3 + d + 1) (nI (j + 1)) := fun K => by
      unfold b_X8_rankBehindItsPrice_11
      rw [nzs, nzs, Nat.add_sub_cancel, Nat.add_sub_cancel, ltt (show 3 + d < ν.2 4 by omega), w1, if_neg (fun h => by have := (nI_leI (by omega) (by omega)).mp h; omega), hget]
      simp only [cond_true, Option.bind_some, eKK, eqs, ltt (show o < ν.2 20 by omega), ltt (show o' < ν.2 20 by omega), ltt z0, yl]
      rw [q1, nI_add]
    by_cases c : o' = o
    · subst c
      have hps : 0 < μ.2 5 (3 + d) j := by omega
      obtain ⟨μ', e1, e2, e3, e4, e5, e6, e7, e8⟩ := k_rem (w := w) (i := 3 + d) (n := k) (x := j) h0 (by omega) w1 (by omega) w3 w4 (by omega) hps (by rw [eKK]; omega) (by rw [eKK]; exact w5)
      refine ⟨μ', k - 1, ?_, ⟨e2, by omega, by omega, w4, by rw [eKK] at e4; exact e4, fun i hi => ?_, fun x hx hne hb hd' => ?_, fun i y hij hy => ?_, fun i y hij hy ni ny => ?_⟩, fun i hi => ?_, e5, e6, e7, e8⟩
      · rw [show g + 1 + 1 + m = (g + 1 + m) + 1 by omega, hstep, hpre, if_pos rfl, e1]
        rfl
      · rw [e3 i hi]
        split
        · exact w6 i (by omega)
        · exact w6 (i + 1) (by omega)
      · obtain ⟨i, i1, i2⟩ := w7 x hx hne hb hd'
        rcases Nat.lt_trichotomy i j with c | c | c
        · exact ⟨i, by omega, by rw [e3 i (by omega), if_pos c]; exact i2⟩
        · subst c; omega
        · exact ⟨i - 1, by omega, by rw [e3 (i - 1) (by omega), if_neg (by omega), show i - 1 + 1 = i by omega]; exact i2⟩
      · rw [e3 i (by omega), e3 y (by omega)]
        split <;> split
        · exact w8 _ _ (by omega) (by omega)
        · exact w8 _ _ (by omega) (by omega)
        · omega
        · exact w8 _ _ (by omega) (by omega)
      · rw [e3 i (by omega)] at ni ⊢
        rw [e3 y (by omega)] at ny ⊢
        by_cases c1 : i < j
        · rw [if_pos c1] at ni ⊢
          by_cases c2 : y < j
          · rw [if_pos c2] at ny ⊢
            exact w9 _ _ (by omega) (by omega) ni ny
          · rw [if_neg c2] at ny ⊢
            exact w9 _ _ (by omega) (by omega) ni ny
        · rw [if_neg c1] at ni ⊢
          rw [if_neg (show ¬ y < j by omega)] at ny ⊢
          exact w9 _ _ (by omega) (by omega) ni ny
      · rw [e3 i hi]
        split
        · exact hno i (by omega)
        · rw [← p1]
          exact fun h => w8 j (i + 1) (by omega) (by omega) h.symm
    · obtain ⟨μ', k', e1, e2⟩ := ih m (j + 1) (by omega) (fun i hi => by
        by_cases ci : i = j
        · subst ci; rw [p1]; omega
        · exact hno i (by omega))
      refine ⟨μ', k', ?_, e2⟩
      rw [show g + 1 + 1 + m = (g + 1 + m) + 1 by omega, hstep, hpre, if_neg c]
      exact e1
/-- a list of rank as it should be -/
def L9 (m : Nat → Int32) (P : Nat → Nat) (l n20 cnt : Nat) (b23 b24 b25 b31 : Nat → Int32) (d : Nat) : Prop := ∃ k : Nat, m 2 = nI k ∧ k ≤ 40 ∧ k ≤ l ∧ l ≤ 12300 ∧ (∀ z, P z ≤ n20) ∧ (∀ i, i < k → ∃ o : Nat, P i = o + 1 ∧ o < cnt ∧ b24 (40 + o) ≠ nI 0 ∧ b23 o = nI d) ∧ (∀ o, o < cnt → b24 (40 + o) ≠ nI 0 → b23 o = nI d → ∃ i, i < k ∧ P i = o + 1) ∧ ∀ i j, i < j → j < k → aheadR b23 b25 b31 (P i - 1) (P j - 1)
theorem k_rank74 {w : Nat} {μ : MP} {ν : NC} {b23 b24 b25 b31 : Nat → Int32} {o d n k x : Nat} {r : Int32} (h0 : R0 ν) (hd : d < 2) (h20 : ν.2 20 = n) (hn : n ≤ 40) (ho : o < n) (hW : W9 (μ.1 4 (3 + d)) (μ.2 5 (3 + d)) (ν.1 5 (3 + d)) (ν.2 20) n b23 b24 b25 b31 o d k) (hno : ∀ i, i < k → μ.2 5 (3 + d) i ≠ o + 1) (h24 : b24 (40 + o) ≠ nI 0) (h23 : b23 o = nI d) (hr : ∀ o', o' < n → o' ≠ o → b24 (40 + o') ≠ nI 0 → b31 o' < r) (hx : x ≤ k) (hlo : ∀ i, i < x → ¬ betR b23 b25 o (μ.2 5 (3 + d) i - 1)) (hhi : x < k → betR b23 b25 o (μ.2 5 (3 + d) x - 1)) :
    ∃ (μ' : MP) (ν' : NC), b_X8_rankBehindItsPrice_74 w μ ν (o + 1) (3 + d + 1) (nI x) = some ((μ', ν'), 0) ∧ L9 (μ'.1 4 (3 + d)) (μ'.2 5 (3 + d)) (ν'.1 5 (3 + d)) (ν.2 20) n b23 b24 b25 (up1 b31 o r) d ∧
      (∀ k, k ≠ 4 → μ'.1 k = μ.1 k) ∧ (∀ j, j ≠ 3 + d → μ'.1 4 j = μ.1 4 j) ∧ (∀ k, k ≠ 5 → μ'.2 k = μ.2 k) ∧ (∀ j, j ≠ 3 + d → μ'.2 5 j = μ.2 5 j) ∧ ν'.2 = ν.2 ∧ (∀ k, k ≠ 5 → k ≠ 98 → ν'.1 k = ν.1 k) ∧ (∀ j, j ≠ 3 + d → ν'.1 5 j = ν.1 5 j) ∧ ∀ c d, RC c d ν → RC c d ν' := by
  have z0 := h0.1
  have z4 := h0.2.2.2.2.1
  have eKK : eK 5 (3 + d) = 20 := by rcases (show d = 0 ∨ d = 1 by omega) with rfl | rfl <;> rfl
  obtain ⟨w1, w2, w3, w4, w5, w6, w7, w8, w9⟩ := id hW
  obtain ⟨μ', ν', e1, e2, e3, e4, e5, e6, e7, e8, e9, e10, e11, e12, e13, e14⟩ := k_ins (w := w) (i := 3 + d) (p := o + 1) (n := k) (x := x) h0 (by omega) w1 (by omega) w3 w4 hx (by omega) (by rw [eKK]; omega) (by rw [eKK]; exact w5)
  rw [eKK] at e4
  have hent : ∀ i, i < k → ∃ o', μ.2 5 (3 + d) i = o' + 1 ∧ o' < n ∧ o' ≠ o ∧ b24 (40 + o') ≠ nI 0 ∧ b23 o' = nI d := fun i hi => by
    obtain ⟨o', p1, p2, p3⟩ := w6 i hi
    have hne : o' ≠ o := fun c => hno i hi (by rw [p1, c])
    exact ⟨o', p1, p2, hne, p3 hne⟩
  have hold : ∀ i j, i < j → j < k → aheadR b23 b25 (up1 b31 o r) (μ.2 5 (3 + d) i - 1) (μ.2 5 (3 + d) j - 1) := fun i j hij hj => by
    obtain ⟨o1, p1, p2, p3, -⟩ := hent i (by omega)
    obtain ⟨o2, q1, q2, q3, -⟩ := hent j hj
    have := w9 i j hij hj (hno i (by omega)) (hno j hj)
    rw [p1, q1, Nat.add_sub_cancel, Nat.add_sub_cancel] at this ⊢
    unfold aheadR at this ⊢
    rw [up1_n _ _ p3, up1_n _ _ q3]
    exact this
  have hbef : ∀ i, i < x → aheadR b23 b25 (up1 b31 o r) (μ.2 5 (3 + d) i - 1) o := fun i hi => by
    obtain ⟨o1, p1, p2, p3, p4, p5⟩ := hent i (by omega)
    have hb := hlo i hi
    rw [p1, Nat.add_sub_cancel] at hb ⊢
    unfold aheadR
    rw [up1_n _ _ p3, up1_s, p5]
    by_cases c : b25 (40 + o1) = b25 (40 + o)
    · exact Or.inl ⟨c, hr o1 p2 p3 p4⟩
    · refine Or.inr ⟨c, ?_⟩
      by_cases cd : nI d = nI 0
      · refine Or.inl ⟨cd, ?_⟩
        have hb' : b25 (40 + o) ≤ b25 (40 + o1) := Classical.byContradiction fun h => hb (by unfold betR; rw [h23, if_pos cd]; exact h)
        exact Int32.lt_of_le_of_ne hb' (fun e => c e.symm)
      · refine Or.inr ⟨cd, ?_⟩
        have hb' : b25 (40 + o1) ≤ b25 (40 + o) := Classical.byContradiction fun h => hb (by unfold betR; rw [h23, if_neg cd]; exact h)
        exact Int32.lt_of_le_of_ne hb' c
  have haft : ∀ i, x ≤ i → i < k → aheadR b23 b25 (up1 b31 o r) o (μ.2 5 (3 + d) i - 1) := fun i hi hik => by
    have hb := hhi (by omega)
    obtain ⟨o1, p1, p2, p3, p4, p5⟩ := hent x (by omega)
    obtain ⟨o2, q1, q2, q3, q4, q5⟩ := hent i hik
    have hs : o1 = o2 ∨ aheadR b23 b25 (up1 b31 o r) o1 o2 := by
      by_cases c : x = i
      · subst c; exact Or.inl (by omega)
      · have := hold x i (by omega) hik
        rw [p1, q1, Nat.add_sub_cancel, Nat.add_sub_cancel] at this
        exact Or.inr this
    rw [p1, Nat.add_sub_cancel] at hb
    rw [q1, Nat.add_sub_cancel]
    unfold aheadR at hs ⊢
    unfold betR at hb
    rw [p5] at hs
    rw [h23] at hb ⊢
    by_cases cd : nI d = nI 0
    · rw [if_pos cd] at hb
      have h1 : b25 (40 + o2) ≤ b25 (40 + o1) := by
        rcases hs with h | h | ⟨-, h | h⟩
        · subst h; exact Int32.le_refl _
        · rw [h.1]; exact Int32.le_refl _
        · exact Int32.le_of_lt h.2
        · exact absurd cd h.1
      have h2 : b25 (40 + o2) < b25 (40 + o) := Int32.lt_of_le_of_lt h1 (Int32.not_le.mp hb)
      exact Or.inr ⟨fun e => by rw [e] at h2; exact Int32.lt_irrefl h2, Or.inl ⟨cd, h2⟩⟩
    · rw [if_neg cd] at hb
      have h1 : b25 (40 + o1) ≤ b25 (40 + o2) := by
        rcases hs with h | h | ⟨-, h | h⟩
        · subst h; exact Int32.le_refl _
        · rw [h.1]; exact Int32.le_refl _
        · exact absurd h.1 cd
        · exact Int32.le_of_lt h.2
      have h2 : b25 (40 + o) < b25 (40 + o2) := Int32.lt_of_lt_of_le (Int32.not_le.mp hb) h1
      exact Or.inr ⟨fun e => by rw [e] at h2; exact Int32.lt_irrefl h2, Or.inr ⟨cd, h2⟩⟩
  have hk40 : k + 1 ≤ 40 := by
    refine Nat.le_trans (pig n (k + 1) (fun i => if i < k then μ.2 5 (3 + d) i - 1 else o) (fun i hi => ?_) (fun i j hij hj => ?_)) hn
    · show (if i < k then μ.2 5 (3 + d) i - 1 else o) < n
      split
      · obtain ⟨o', p1, p2, -⟩ := hent i (by omega); omega
      · exact ho
    · show (if i < k then μ.2 5 (3 + d) i - 1 else o) ≠ (if j < k then μ.2 5 (3 + d) j - 1 else o)
      obtain ⟨o1, p1, p2, p3, -⟩ := hent i (by omega)
      rw [if_pos (show i < k by omega)]
      split
      · obtain ⟨o2, q1, q2, q3, -⟩ := hent j (by omega)
        have := w8 i j hij (by omega)
        omega
      · omega
  refine ⟨μ', ν', ?_, ⟨k + 1, e2, hk40, e5, e6, e4, fun i hi => ?_, fun o' h1 h2 h3 => ?_, fun i j hij hj => ?_⟩, e7, e8, e9, e10, e11, e12, e13, e14⟩
  · unfold b_X8_rankBehindItsPrice_74
    rw [nzs, Nat.add_sub_cancel, ltt (show 3 + d < ν.2 4 by omega), eKK, eqs, ltt z0, e1]
    rfl
  · rw [e3 i hi]
    split
    · obtain ⟨o1, p1, p2, p3, p4, p5⟩ := hent i (by omega)
      exact ⟨o1, p1, p2, p4, p5⟩
    · split
      · exact ⟨o, rfl, ho, h24, h23⟩
      · obtain ⟨o1, p1, p2, p3, p4, p5⟩ := hent (i - 1) (by omega)
        exact ⟨o1, p1, p2, p4, p5⟩
  · by_cases c : o' = o
    · subst c
      exact ⟨x, by omega, by rw [e3 x (by omega), if_neg (Nat.lt_irrefl _), if_pos rfl]⟩
    · obtain ⟨i, i1, i2⟩ := w7 o' h1 c h2 h3
      by_cases ci : i < x
      · exact ⟨i, by omega, by rw [e3 i (by omega), if_pos ci]; exact i2⟩
      · exact ⟨i + 1, by omega, by rw [e3 (i + 1) (by omega), if_neg (by omega), if_neg (by omega), Nat.add_sub_cancel]; exact i2⟩
  · rw [e3 i (by omega), e3 j (by omega)]
    by_cases c1 : i < x
    · rw [if_pos c1]
      by_cases c2 : j < x
      · rw [if_pos c2]; exact hold i j hij (by omega)
      · rw [if_neg c2]
        by_cases c3 : j = x
        · rw [if_pos c3, Nat.add_sub_cancel]; exact hbef i c1
        · rw [if_neg c3]; exact hold i (j - 1) (by omega) (by omega)
    · rw [if_neg c1, if_neg (show ¬ j < x by omega), if_neg (show ¬ j = x by omega)]
      by_cases c3 : i = x
      · rw [if_pos c3, Nat.add_sub_cancel]; exact haft (j - 1) (by omega) (by omega)
      · rw [if_neg c3]; exact hold (i - 1) (j - 1) (by omega) (by omega)
theorem k_rank45 {w : Nat} {μ : MP} {ν : NC} {b23 b24 b25 b31 : Nat → Int32} {o d n k : Nat} {r : Int32} (h0 : R0 ν) (hd : d < 2) (h20 : ν.2 20 = n) (hn : n ≤ 40) (ho : o < n) (hb : ∀ o, o < n → μ.1 20 o 1 = b23 o ∧ μ.1 21 (2 * o + 1) 0 = b25 (40 + o)) (hW : W9 (μ.1 4 (3 + d)) (μ.2 5 (3 + d)) (ν.1 5 (3 + d)) (ν.2 20) n b23 b24 b25 b31 o d k) (hno : ∀ i, i < k → μ.2 5 (3 + d) i ≠ o + 1) (h24 : b24 (40 + o) ≠ nI 0) (h23 : b23 o = nI d) (hr : ∀ o', o' < n → o' ≠ o → b24 (40 + o') ≠ nI 0 → b31 o' < r) : ∀ (g m x : Nat), x + g = k → (∀ i, i < x → ¬ betR b23 b25 o (μ.2 5 (3 + d) i - 1)) →
    ∃ (μ' : MP) (ν' : NC), l_X8_rankBehindItsPrice_45 w (g + 1 + m) μ ν (o + 1) (3 + d + 1) (nI x) = some ((μ', ν'), 0) ∧ L9 (μ'.1 4 (3 + d)) (μ'.2 5 (3 + d)) (ν'.1 5 (3 + d)) (ν.2 20) n b23 b24 b25 (up1 b31 o r) d ∧
      (∀ k, k ≠ 4 → μ'.1 k = μ.1 k) ∧ (∀ j, j ≠ 3 + d → μ'.1 4 j = μ.1 4 j) ∧ (∀ k, k ≠ 5 → μ'.2 k = μ.2 k) ∧ (∀ j, j ≠ 3 + d → μ'.2 5 j = μ.2 5 j) ∧ ν'.2 = ν.2 ∧ (∀ k, k ≠ 5 → k ≠ 98 → ν'.1 k = ν.1 k) ∧ (∀ j, j ≠ 3 + d → ν'.1 5 j = ν.1 5 j) ∧ ∀ c d, RC c d ν → RC c d ν' := by
  have z0 := h0.1
  have z4 := h0.2.2.2.2.1
  have z21 := h0.2.2.2.2.2.2.2.2.2.2.2.2.2.2.2.2.2
  have eKK : eK 5 (3 + d) = 20 := by rcases (show d = 0 ∨ d = 1 by omega) with rfl | rfl <;> rfl
  obtain ⟨w1, w2, w3, w4, w5, w6, w7, w8, w9⟩ := id hW
  intro g
  induction g with
  | zero =>
    intro m x hx hlo
    rw [show 0 + 1 + m = m + 1 by omega]
    have := k_rank74 (w := w) h0 hd h20 hn ho hW hno h24 h23 hr (show x ≤ k by omega) hlo (fun h => by omega)
    show ∃ (μ' : MP) (ν' : NC), b_X8_rankBehindItsPrice_45 _ w μ ν _ _ _ = _ ∧ _
    unfold b_X8_rankBehindItsPrice_45
    rw [nzs, Nat.add_sub_cancel, ltt (show 3 + d < ν.2 4 by omega), w1, if_pos ((nI_leI (by omega) (by omega)).mpr (by omega))]
    exact this
  | succ g ih =>
    intro m x hx hlo
    obtain ⟨o', p1, p2, p3⟩ := w6 x (by omega)
    have hget := k_get (i := 3 + d) (n := k) (x := x) (p := o') h0 (by omega) w1 (by omega) w3 w4 (by omega) p1 (by rw [eKK]; omega)
    have hbp := k_hbp (w := w) h20 z21 hb ho p2
    have hpre : ∀ (K : MP → NC → Nat → Nat → Int32 → Option ((MP × NC) × Int32)), b_X8_rankBehindItsPrice_45 K w μ ν (o + 1) (3 + d + 1) (nI x) = if betR b23 b25 o o' then b_X8_rankBehindItsPrice_74 w μ ν (o + 1) (3 + d + 1) (nI x) else K μ ν (o + 1) (3 + d + 1) (nI (x + 1)) := fun K => by
      unfold b_X8_rankBehindItsPrice_45
      rw [nzs, nzs, Nat.add_sub_cancel, Nat.add_sub_cancel, ltt (show 3 + d < ν.2 4 by omega), w1, if_neg (fun h => by have := (nI_leI (by omega) (by omega)).mp h; omega), hget]
      simp only [cond_true, Option.bind_some, eKK, eqs, ltt (show o < ν.2 20 by omega), ltt (show o' < ν.2 20 by omega), yl, hbp]
      rw [q1, q0, nI_add]
      by_cases c : betR b23 b25 o o'
      · rw [if_pos c, if_neg (show ¬ nI 1 = nI 0 by decide), if_pos c]
      · rw [if_neg c, if_pos (rfl : nI 0 = nI 0), if_neg c]
    have hstep : ∀ q, l_X8_rankBehindItsPrice_45 w (q + 1) μ ν (o + 1) (3 + d + 1) (nI x) = b_X8_rankBehindItsPrice_45 (l_X8_rankBehindItsPrice_45 w q) w μ ν (o + 1) (3 + d + 1) (nI x) := fun q => rfl
    rw [show g + 1 + 1 + m = (g + 1 + m) + 1 by omega, hstep, hpre]
    by_cases c : betR b23 b25 o o'
    · rw [if_pos c]
      exact k_rank74 (w := w) h0 hd h20 hn ho hW hno h24 h23 hr (show x ≤ k by omega) hlo (fun _ => by rw [p1, Nat.add_sub_cancel]; exact c)
    · rw [if_neg c]
      exact ih m (x + 1) (by omega) (fun i hi => by
        by_cases ci : i = x
        · subst ci; rw [p1, Nat.add_sub_cancel]; exact c
        · exact hlo i (by omega))
theorem k_rank {w : Nat} {μ : MP} {ν : NC} {b23 b24 b25 b31 : Nat → Int32} {o d n k : Nat} {r : Int32} (h0 : R0 ν) (hd : d < 2) (h20 : ν.2 20 = n) (hn : n ≤ 40) (ho : o < n) (hb : ∀ o, o < n → μ.1 20 o 1 = b23 o ∧ μ.1 21 (2 * o + 1) 0 = b25 (40 + o)) (hW : W9 (μ.1 4 (3 + d)) (μ.2 5 (3 + d)) (ν.1 5 (3 + d)) (ν.2 20) n b23 b24 b25 b31 o d k) (h24 : b24 (40 + o) ≠ nI 0) (h23 : b23 o = nI d) (hr : ∀ o', o' < n → o' ≠ o → b24 (40 + o') ≠ nI 0 → b31 o' < r) (hw : 100 < w) :
    ∃ (μ' : MP) (ν' : NC), f_X8_rankBehindItsPrice w μ ν (o + 1) = some ((μ', ν'), 0) ∧ L9 (μ'.1 4 (3 + d)) (μ'.2 5 (3 + d)) (ν'.1 5 (3 + d)) (ν.2 20) n b23 b24 b25 (up1 b31 o r) d ∧
      (∀ k, k ≠ 4 → μ'.1 k = μ.1 k) ∧ (∀ j, j ≠ 3 + d → μ'.1 4 j = μ.1 4 j) ∧ (∀ k, k ≠ 5 → μ'.2 k = μ.2 k) ∧ (∀ j, j ≠ 3 + d → μ'.2 5 j = μ.2 5 j) ∧ ν'.2 = ν.2 ∧ (∀ k, k ≠ 5 → k ≠ 98 → ν'.1 k = ν.1 k) ∧ (∀ j, j ≠ 3 + d → ν'.1 5 j = ν.1 5 j) ∧ ∀ c d, RC c d ν → RC c d ν' := by
  obtain ⟨m1, hm1⟩ : ∃ m, w = k + 1 + m := ⟨w - k - 1, by have := hW.2.1; omega⟩
  obtain ⟨μ1, k1, a1, a2, a3, a4, a5, a6, a7⟩ := k_rank11 (w := w) h0 hd h20 hn ho hW k m1 0 (by omega) (fun i hi => by omega)
  obtain ⟨m2, hm2⟩ : ∃ m, w = k1 + 1 + m := ⟨w - k1 - 1, by have := a2.2.1; omega⟩
  obtain ⟨μ2, ν2, b1, b2, b3, b4, b5, b6, b7, b8, b9, b10⟩ := k_rank45 (w := w) h0 hd h20 hn ho (fun o ho => by rw [a4 20 (by decide), a4 21 (by decide)]; exact hb o ho) a2 a3 h24 h23 hr k1 m2 0 (by omega) (fun i hi => by omega)
  rw [← hm1] at a1
  rw [← hm2] at b1
  refine ⟨μ2, ν2, ?_, b2, fun k hk => (b3 k hk).trans (a4 k hk), fun j hj => (b4 j hj).trans (a5 j hj), fun k hk => (b5 k hk).trans (a6 k hk), fun j hj => (b6 j hj).trans (a7 j hj), b7, b8, b9, b10⟩
  have hby : f_X8_byRank w μ ν (nI d) = some (3 + d + 1) := by
    unfold f_X8_byRank
    rw [ltt h0.1]
    rcases (show d = 0 ∨ d = 1 by omega) with rfl | rfl
    · rw [if_pos (by decide)]; rfl
    · rw [if_neg (by decide)]; rfl
  unfold f_X8_rankBehindItsPrice
  rw [nzs, Nat.add_sub_cancel, ltt (show o < ν.2 20 by omega), ltt h0.1, (hb o ho).1, h23, hby]
  simp only [cond_true, Option.bind_some]
  exact a1.trans b1
