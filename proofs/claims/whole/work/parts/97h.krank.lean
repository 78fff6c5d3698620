/-! Ranking: the class against the reference. -/
theorem k_rem {w : Nat} {μ : MP} {ν : NC} {i n x : Nat} (h0 : R0 ν) (hi : i < 6) (hsz : μ.1 4 i 2 = nI n) (hn : n ≤ 8190) (hl : n ≤ ν.1 5 i) (hl2 : ν.1 5 i ≤ 12300) (hx : x < n) (hp : 0 < μ.2 5 i x) (hc : 0 < ν.2 (eK 5 i)) (hz : ∀ z, μ.2 5 i z ≤ ν.2 (eK 5 i)) :
    ∃ μ' : MP, f_Jx4a65c_remove_915e3 w μ ν i (nI x) = some ((μ', ν), μ.2 5 i x) ∧ μ'.1 4 i 2 = nI (n - 1) ∧ (∀ z, z < n - 1 → μ'.2 5 i z = if z < x then μ.2 5 i z else μ.2 5 i (z + 1)) ∧ (∀ z, μ'.2 5 i z ≤ ν.2 (eK 5 i)) ∧
      (∀ k, k ≠ 4 → μ'.1 k = μ.1 k) ∧ (∀ j, j ≠ i → μ'.1 4 j = μ.1 4 j) ∧ (∀ k, k ≠ 5 → μ'.2 k = μ.2 k) ∧ (∀ j, j ≠ i → μ'.2 5 j = μ.2 5 j) := by
  obtain ⟨-, -, -, -, z4, z5, -, -, -, -, -, -, -, -, z31, z310, -⟩ := h0
  have hcl : (μ.1 4 i 2).toNatClampNeg = n := by rw [hsz, nI_clamp (by omega)]
  have hok : lsOk μ ν i 0 ∧ ¬ nI x < 0 ∧ (nI x).toNatClampNeg < (μ.1 4 i 2).toNatClampNeg ∧ 0 < μ.2 5 i (nI x).toNatClampNeg := by
    rw [hcl, nI_clamp (by omega)]
    exact ⟨⟨by omega, by omega, by rw [hsz]; exact nIb _ (by omega), by rw [hcl]; exact hl, by omega, z31, z310, hc, hz⟩, nIb _ (by omega), hx, hp⟩
  unfold f_Jx4a65c_remove_915e3
  rw [if_pos hok, hcl, nI_clamp (by omega)]
  refine ⟨_, rfl, ?_, fun z hz' => ?_, fun z => ?_, fun k hk => ?_, fun j hj => ?_, fun k hk => ?_, fun j hj => ?_⟩
  · simp (disch := omega) only [up3_s, up1_s]
  · simp (disch := omega) only [up2_s]
    unfold rmP
    rw [if_neg (show ¬ z = n - 1 by omega)]
    by_cases c : z < x
    · rw [if_pos c, if_neg (by omega)]
    · rw [if_neg c, if_pos (by omega)]
  · simp (disch := omega) only [up2_s]
    unfold rmP
    repeat' split
    all_goals first | exact hz _ | exact Nat.zero_le _
  · simp (disch := omega) only [up3, up2, up1_n]
  · simp (disch := omega) only [up3, up2_n]
  · simp (disch := omega) only [up2, up1_n]
  · simp (disch := omega) only [up2_n]
theorem k_ins {w : Nat} {μ : MP} {ν : NC} {i p n x : Nat} (h0 : R0 ν) (hi : i < 6) (hsz : μ.1 4 i 2 = nI n) (hn : n ≤ 8190) (hl : n ≤ ν.1 5 i) (hl2 : ν.1 5 i ≤ 12300) (hx : x ≤ n) (hp0 : 0 < p) (hp : p - 1 < ν.2 (eK 5 i)) (hz : ∀ z, μ.2 5 i z ≤ ν.2 (eK 5 i)) :
    ∃ (μ' : MP) (ν' : NC), f_Jx4a65c_add_7a177 w μ ν i (nI x) p = some ((μ', ν'), 0) ∧ μ'.1 4 i 2 = nI (n + 1) ∧ (∀ z, z < n + 1 → μ'.2 5 i z = if z < x then μ.2 5 i z else if z = x then p else μ.2 5 i (z - 1)) ∧ (∀ z, μ'.2 5 i z ≤ ν.2 (eK 5 i)) ∧ n + 1 ≤ ν'.1 5 i ∧ ν'.1 5 i ≤ 12300 ∧
      (∀ k, k ≠ 4 → μ'.1 k = μ.1 k) ∧ (∀ j, j ≠ i → μ'.1 4 j = μ.1 4 j) ∧ (∀ k, k ≠ 5 → μ'.2 k = μ.2 k) ∧ (∀ j, j ≠ i → μ'.2 5 j = μ.2 5 j) ∧ ν'.2 = ν.2 ∧ (∀ k, k ≠ 5 → k ≠ 98 → ν'.1 k = ν.1 k) ∧ (∀ j, j ≠ i → ν'.1 5 j = ν.1 5 j) ∧ ∀ c d, RC c d ν → RC c d ν' := by
  obtain ⟨-, -, -, -, z4, z5, -, -, -, -, -, -, -, -, z31, z310, -⟩ := h0
  have hc : (μ.1 4 i 2).toNatClampNeg = n := by rw [hsz, nI_clamp (by omega)]
  have hok : 0 < p ∧ lsOk μ ν i (p - 1) ∧ ¬ nI x < 0 ∧ (nI x).toNatClampNeg ≤ (μ.1 4 i 2).toNatClampNeg := by
    rw [hc, nI_clamp (by omega)]
    exact ⟨hp0, ⟨by omega, by omega, by rw [hsz]; exact nIb _ (by omega), by rw [hc]; exact hl, by omega, z31, z310, hp, hz⟩, nIb _ (by omega), hx⟩
  unfold f_Jx4a65c_add_7a177
  rw [if_pos hok, hc, nI_clamp (by omega)]
  have fr1 : ∀ (m : Nat) (q : Nat → Nat) (k : Nat), k ≠ 4 → (lsM μ i m q).1 k = μ.1 k := fun m q k hk => by
    simp (disch := omega) only [lsM, up3, up2, up1_n]
  have fr2 : ∀ (m : Nat) (q : Nat → Nat) (j : Nat), j ≠ i → (lsM μ i m q).1 4 j = μ.1 4 j := fun m q j hj => by
    simp (disch := omega) only [lsM, up3, up2_n]
  have fr3 : ∀ (m : Nat) (q : Nat → Nat) (k : Nat), k ≠ 5 → (lsM μ i m q).2 k = μ.2 k := fun m q k hk => by
    simp (disch := omega) only [lsM, up2, up1_n]
  have fr4 : ∀ (m : Nat) (q : Nat → Nat) (j : Nat), j ≠ i → (lsM μ i m q).2 5 j = μ.2 5 j := fun m q j hj => by
    simp (disch := omega) only [lsM, up2_n]
  have e1 : ∀ (m : Nat) (q : Nat → Nat), (lsM μ i m q).1 4 i 2 = nI (m + 1) := fun m q => by
    simp (disch := omega) only [lsM, up3_s, up1_s]
  have e2 : ∀ (m : Nat) (q : Nat → Nat), (lsM μ i m q).2 5 i = q := fun m q => by
    simp (disch := omega) only [lsM, up2_s]
  have hcost : ∀ x : Nat, (ν.1 5 i < x ∧ x ≤ 5 * (x - ν.1 5 i)) → ∀ c d, RC c d ν → RC c d (chg (up2 ν.1 5 i x, ν.2) 1 x) := fun x hx c d hC => by
    obtain ⟨g1, g2⟩ := hC
    rcases (show i = 0 ∨ i = 1 ∨ i = 2 ∨ i = 3 ∨ i = 4 ∨ i = 5 by omega) with rfl | rfl | rfl | rfl | rfl | rfl
    all_goals
      refine ⟨?_, ?_⟩
      · simp (disch := omega) only [kc, chg, up2_n, up2_s] at g1 ⊢
        omega
      · simp (disch := omega) only [ks, chg, up2_n, up2_s] at g2 ⊢
        omega
  have hchg : ∀ x : Nat, (∀ k, k ≠ 5 → k ≠ 98 → (chg (up2 ν.1 5 i x, ν.2) 1 x).1 k = ν.1 k) ∧ (∀ j, j ≠ i → (chg (up2 ν.1 5 i x, ν.2) 1 x).1 5 j = ν.1 5 j) ∧ (chg (up2 ν.1 5 i x, ν.2) 1 x).1 5 i = x := fun x => ⟨fun k h1 h2 => by simp (disch := omega) only [chg, up2, up1_n], fun j hj => by simp (disch := omega) only [chg, up2_n], by simp (disch := omega) only [chg, up2_n, up2_s]⟩
  have hin : ∀ (q : Nat → Nat) (z : Nat), z < n + 1 → (∀ y, y < n → q y = μ.2 5 i y) → inP q x n p z = if z < x then μ.2 5 i z else if z = x then p else μ.2 5 i (z - 1) := fun q z hz1 hq => by
    unfold inP
    by_cases c1 : z < x
    · rw [if_pos c1, if_neg (by omega), if_neg (by omega), hq z (by omega)]
    · rw [if_neg c1]
      by_cases c2 : z = x
      · rw [if_pos c2, if_pos c2]
      · rw [if_neg c2, if_neg c2, if_pos (by omega), hq _ (by omega)]
  have hib : ∀ (q : Nat → Nat) (z m : Nat), (∀ y, q y ≤ ν.2 (eK 5 i)) → inP q x m p z ≤ ν.2 (eK 5 i) := fun q z m hq => by
    unfold inP
    repeat' split
    · omega
    · exact hq _
    · exact hq _
  by_cases c1 : n < ν.1 5 i
  · rw [if_pos c1]
    refine ⟨_, ν, rfl, e1 _ _, fun z hz' => ?_, fun z => ?_, by omega, hl2, fr1 _ _, fr2 _ _, fr3 _ _, fr4 _ _, rfl, fun _ _ _ => rfl, fun _ _ => rfl, fun _ _ h => h⟩
    · rw [e2]; exact hin _ z hz' (fun _ _ => rfl)
    · rw [e2]; exact hib _ z _ hz
  · rw [if_neg c1]
    by_cases c2 : ν.1 5 i = 0
    · obtain rfl : n = 0 := by omega
      obtain rfl : x = 0 := by omega
      rw [if_pos c2]
      obtain ⟨y1, y2, y3⟩ := hchg 10
      refine ⟨_, _, rfl, e1 _ _, fun z hz' => ?_, fun z => ?_, by rw [y3]; omega, by rw [y3]; omega, fr1 _ _, fr2 _ _, fr3 _ _, fr4 _ _, rfl, y1, y2, hcost 10 (by omega)⟩
      · rw [e2]; exact hin _ z hz' (fun y hy => by omega)
      · rw [e2]; exact hib _ z _ (fun _ => Nat.zero_le _)
    · rw [if_neg c2]
      have hnl : ν.1 5 i = n := by omega
      have hK : 1 ≤ lsK ν i ∧ lsK ν i ≤ n / 2 + 1 ∧ n / 2 ≤ lsK ν i := by
        unfold lsK
        rw [hnl]
        split <;> omega
      obtain ⟨y1, y2, y3⟩ := hchg (ν.1 5 i + lsK ν i)
      have hg : ∀ y, y < n → lsG μ ν i y = μ.2 5 i y := fun y hy => by
        unfold lsG
        rw [if_pos (by omega)]
      refine ⟨_, _, rfl, by rw [e1, hnl], fun z hz' => ?_, fun z => ?_, by rw [y3]; omega, by rw [y3]; omega, fr1 _ _, fr2 _ _, fr3 _ _, fr4 _ _, rfl, y1, y2, hcost _ (by omega)⟩
      · rw [e2, hnl]; exact hin _ z hz' hg
      · rw [e2]
        refine hib _ z _ (fun y => ?_)
        unfold lsG
        split
        · exact hz y
        · exact Nat.zero_le _
/-- so many different ones below N -/
theorem pig : ∀ (N k : Nat) (P : Nat → Nat), (∀ i, i < k → P i < N) → (∀ i j, i < j → j < k → P i ≠ P j) → k ≤ N := by
  intro N
  induction N with
  | zero =>
    intro k P h1 _
    by_cases hk : 0 < k
    · exact absurd (h1 0 hk) (Nat.not_lt_zero _)
    · omega
  | succ N ih =>
    intro k P h1 h2
    by_cases hc : ∃ i, i < k ∧ P i = N
    · obtain ⟨i0, c1, c2⟩ := hc
      have h3 : ∀ i, i < k → i ≠ i0 → P i < N := fun i hi hne => by
        have := h1 i hi
        have hne' : P i ≠ N := fun e => by
          rcases Nat.lt_or_ge i i0 with c | c
          · exact h2 i i0 c c1 (e.trans c2.symm)
          · exact h2 i0 i (by omega) hi (c2.trans e.symm)
        omega
      have := ih (k - 1) (fun i => if i < i0 then P i else P (i + 1)) (fun i hi => by
        show (if i < i0 then P i else P (i + 1)) < N
        split
        · exact h3 i (by omega) (by omega)
        · exact h3 (i + 1) (by omega) (by omega)) (fun i j hij hj => by
        show (if i < i0 then P i else P (i + 1)) ≠ (if j < i0 then P j else P (j + 1))
        split <;> split
        · exact h2 i j hij (by omega)
        · exact h2 i (j + 1) (by omega) (by omega)
        · omega
        · exact h2 (i + 1) (j + 1) (by omega) (by omega))
      omega
    · have := ih k P (fun i hi => by
        have := h1 i hi
        have hne : P i ≠ N := fun e => hc ⟨i, hi, e⟩
        omega) h2
      omega
/-- whether o has a better price than o' at the house -/
abbrev betR (b23 b25 : Nat → Int32) (o o' : Nat) : Prop := if b23 o = nI 0 then ¬ b25 (40 + o) ≤ b25 (40 + o') else ¬ b25 (40 + o') ≤ b25 (40 + o)
theorem k_hbp {w : Nat} {μ : MP} {ν : NC} {b23 b25 : Nat → Int32} {o o' n : Nat} (h20 : ν.2 20 = n) (h21 : ν.2 21 = 2 * ν.2 20) (hb : ∀ o, o < n → μ.1 20 o 1 = b23 o ∧ μ.1 21 (2 * o + 1) 0 = b25 (40 + o)) (ho : o < n) (ho' : o' < n) : f_X4_hasBetterPriceThan w μ ν o (o' + 1) = some (if betR b23 b25 o o' then nI 1 else nI 0) := by
  unfold f_X4_hasBetterPriceThan
  rw [ltt (show o < ν.2 20 by omega), nzs, Nat.add_sub_cancel, ltt (show o' < ν.2 20 by omega), ltt (show 2 * o + 1 < ν.2 21 by omega), ltt (show 2 * o' + 1 < ν.2 21 by omega), (hb o ho).1, (hb o ho).2, (hb o' ho').2, q0, q1]
  simp only [cond_true]
  by_cases c1 : b23 o = nI 0
  · have hb' : betR b23 b25 o o' ↔ ¬ b25 (40 + o) ≤ b25 (40 + o') := by unfold betR; rw [if_pos c1]
    rw [if_pos c1]
    by_cases c2 : b25 (40 + o) ≤ b25 (40 + o')
    · rw [if_pos c2, if_neg (fun h => hb'.mp h c2)]
    · rw [if_neg c2, if_pos (hb'.mpr c2)]
  · have hb' : betR b23 b25 o o' ↔ ¬ b25 (40 + o') ≤ b25 (40 + o) := by unfold betR; rw [if_neg c1]
    rw [if_neg c1]
    by_cases c2 : b25 (40 + o') ≤ b25 (40 + o)
    · rw [if_pos c2, if_neg (fun h => hb'.mp h c2)]
    · rw [if_neg c2, if_pos (hb'.mpr c2)]
/-- a list of rank in which order o, perhaps, is out of place -/
def W9 (m : Nat → Int32) (P : Nat → Nat) (l n20 cnt : Nat) (b23 b24 b25 b31 : Nat → Int32) (o d k : Nat) : Prop := m 2 = nI k ∧ k ≤ 40 ∧ k ≤ l ∧ l ≤ 12300 ∧ (∀ z, P z ≤ n20) ∧ (∀ i, i < k → ∃ o', P i = o' + 1 ∧ o' < cnt ∧ (o' ≠ o → b24 (40 + o') ≠ nI 0 ∧ b23 o' = nI d)) ∧ (∀ o', o' < cnt → o' ≠ o → b24 (40 + o') ≠ nI 0 → b23 o' = nI d → ∃ i, i < k ∧ P i = o' + 1) ∧ (∀ i j, i < j → j < k → P i ≠ P j) ∧ ∀ i j, i < j → j < k → P i ≠ o + 1 → P j ≠ o + 1 → aheadR b23 b25 b31 (P i - 1) (P j - 1)
theorem k_rank11 {w : Nat} {ν : NC} {b23 b24 b25 b31 : Nat → Int32} {o d n k : Nat} {μ : MP} (h0 : R0 ν) (hd : d < 2) (h20 : ν.2 20 = n) (hn : n ≤ 40) (ho : o < n) (hW : W9 (μ.1 4 (3 + d)) (μ.2 5 (3 + d)) (ν.1 5 (3 + d)) (ν.2 20) n b23 b24 b25 b31 o d k) : ∀ (g m j : Nat), j + g = k → (∀ i, i < j → μ.2 5 (3 + d) i ≠ o + 1) → ∃ (μ' : MP) (k' : Nat), l_X8_rankBehindItsPrice_11 w (g + 1 + m) μ ν (o + 1) (3 + d + 1) (nI j) = b_X8_rankBehindItsPrice_43 w μ' ν (o + 1) (3 + d + 1) ∧ W9 (μ'.1 4 (3 + d)) (μ'.2 5 (3 + d)) (ν.1 5 (3 + d)) (ν.2 20) n b23 b24 b25 b31 o d k' ∧ (∀ i, i < k' → μ'.2 5 (3 + d) i ≠ o + 1) ∧ (∀ k, k ≠ 4 → μ'.1 k = μ.1 k) ∧ (∀ j, j ≠ 3 + d → μ'.1 4 j = μ.1 4 j) ∧ (∀ k, k ≠ 5 → μ'.2 k = μ.2 k) ∧ (∀ j, j ≠ 3 + d → μ'.2 5 j = μ.2 5 j) := by
  have z0 := h0.1
  have z4 := h0.2.2.2.2.1
  have eKK : eK 5 (3 + d) = 20 := by rcases (show d = 0 ∨ d = 1 by omega) with rfl | rfl <;> rfl
  obtain ⟨w1, w2, w3, w4, w5, w6, w7, w8, w9⟩ := id hW
  intro g
  induction g with
  | zero =>
    intro m j hj hno
    refine ⟨μ, k, ?_, hW, fun i hi => hno i (by omega), fun _ _ => rfl, fun _ _ => rfl, fun _ _ => rfl, fun _ _ => rfl⟩
    rw [show 0 + 1 + m = m + 1 by omega]
    show b_X8_rankBehindItsPrice_11 _ w μ ν _ _ _ = _
    unfold b_X8_rankBehindItsPrice_11
    rw [nzs, Nat.add_sub_cancel, ltt (show 3 + d < ν.2 4 by omega), w1, if_pos ((nI_leI (by omega) (by omega)).mpr (by omega))]
    rfl
  | succ g ih =>
    intro m j hj hno
    obtain ⟨o', p1, p2, p3⟩ := w6 j (by omega)
    have hget := k_get (i := 3 + d) (n := k) (x := j) (p := o') h0 (by omega) w1 (by omega) w3 w4 (by omega) p1 (by rw [eKK]; omega)
    have hstep : ∀ q, l_X8_rankBehindItsPrice_11 w (q + 1) μ ν (o + 1) (3 + d + 1) (nI j) = b_X8_rankBehindItsPrice_11 (l_X8_rankBehindItsPrice_11 w q) w μ ν (o + 1) (3 + d + 1) (nI j) := fun q => rfl
    have hpre : ∀ (K : MP → NC → Nat → Nat → Int32 → Option ((MP × NC) × Int32)), b_X8_rankBehindItsPrice_11 K w μ ν (o + 1) (3 + d + 1) (nI j) = if o' = o then (f_Jx4a65c_remove_915e3 w μ ν (3 + d) (nI j)).bind (fun v27 => b_X8_rankBehindItsPrice_34 w v27.1.1 v27.1.2 (o + 1) (3 + d + 1)) else K μ ν (o + 1) (3 + d + 1) (nI (j + 1)) := fun K => by
      unfold b_X8_rankBehindItsPrice_11
      rw [nzs, nzs, Nat.add_sub_cancel, Nat.add_sub_cancel, ltt (show 3 + d < ν.2 4 by omega), w1, if_neg (fun h => by have := (nI_leI (by omega) (by omega)).mp h; omega), hget]
      simp only [cond_true, Option.bind_some, eKK, eqs, ltt (show o < ν.2 20 by omega), ltt (show o' < ν.2 20 by omega), ltt z0, yl]
      rw [q1, nI_add]
    by_cases c : o' = o
    · subst c
      have hps : 0 < μ.2 5 (3 + d) j := by omega
      obtain ⟨μ', e1, e2, e3, e4, e5, e6, e7, e8⟩ := k_rem (w := w) (i := 3 + d) (n := k) (x := j) h0 (by omega) w1 (by omega) w3 w4 (by omega) hps (by rw [eKK]; omega) (by rw [eKK]; exact w5)
      refine ⟨μ', k - 1, ?_, ⟨e2, by omega, by omega, w4, by rw [eKK] at e4; exact e4, fun i hi => ?_, fun x hx hne hb hd' => ?_, fun i y hij hy => ?_, fun i y hij hy ni ny => ?_⟩, fun i hi => ?_, e5, e6, e7, e8⟩
      · rw [show g + 1 + 1 + m = (g + 1 + m) + 1 by omega, hstep, hpre, if_pos rfl, e1]
        rfl
      · rw [e3 i hi]
        split
        · exact w6 i (by omega)
        · exact w6 (i + 1) (by omega)
      · obtain ⟨i, i1, i2⟩ := w7 x hx hne hb hd'
        rcases Nat.lt_trichotomy i j with c | c | c
        · exact ⟨i, by omega, by rw [e3 i (by omega), if_pos c]; exact i2⟩
        · subst c; omega
        · exact ⟨i - 1, by omega, by rw [e3 (i - 1) (by omega), if_neg (by omega), show i - 1 + 1 = i by omega]; exact i2⟩
      · rw [e3 i (by omega), e3 y (by omega)]
        split <;> split
        · exact w8 _ _ (by omega) (by omega)
        · exact w8 _ _ (by omega) (by omega)
        · omega
        · exact w8 _ _ (by omega) (by omega)
      · rw [e3 i (by omega)] at ni ⊢
        rw [e3 y (by omega)] at ny ⊢
        by_cases c1 : i < j
        · rw [if_pos c1] at ni ⊢
          by_cases c2 : y < j
          · rw [if_pos c2] at ny ⊢
            exact w9 _ _ (by omega) (by omega) ni ny
          · rw [if_neg c2] at ny ⊢
            exact w9 _ _ (by omega) (by omega) ni ny
        · rw [if_neg c1] at ni ⊢
          rw [if_neg (show ¬ y < j by omega)] at ny ⊢
          exact w9 _ _ (by omega) (by omega) ni ny
      · rw [e3 i hi]
        split
        · exact hno i (by omega)
        · rw [← p1]
          exact fun h => w8 j (i + 1) (by omega) (by omega) h.symm
    · obtain ⟨μ', k', e1, e2⟩ := ih m (j + 1) (by omega) (fun i hi => by
        by_cases ci : i = j
        · subst ci; rw [p1]; omega
        · exact hno i (by omega))
      refine ⟨μ', k', ?_, e2⟩
      rw [show g + 1 + 1 + m = (g + 1 + m) + 1 by omega, hstep, hpre, if_neg c]
      exact e1
