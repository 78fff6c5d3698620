/-! The queues and the logs of the reference's registers. -/
def qf (f : Nat → Nat) : Nat → Nat → List Nat
  | 0, _ => []
  | d + 1, k => f k :: qf f d (k + 1)
theorem qf_len (f : Nat → Nat) : ∀ d k, (qf f d k).length = d
  | 0, _ => rfl
  | d + 1, k => congrArg (· + 1) (qf_len f d (k + 1))
theorem qf_snoc (f : Nat → Nat) : ∀ d k, qf f (d + 1) k = qf f d k ++ [f (k + d)]
  | 0, k => rfl
  | d + 1, k => by
    show f k :: qf f (d + 1) (k + 1) = (f k :: qf f d (k + 1)) ++ [f (k + (d + 1))]
    rw [qf_snoc f d (k + 1), show k + 1 + d = k + (d + 1) by omega]
    rfl
theorem qf_congr {f g : Nat → Nat} : ∀ d k, (∀ i, k ≤ i → i < k + d → f i = g i) → qf f d k = qf g d k
  | 0, _, _ => rfl
  | d + 1, k, h => by
    show f k :: qf f d (k + 1) = g k :: qf g d (k + 1)
    rw [h k (Nat.le_refl _) (by omega), qf_congr d (k + 1) (fun i h1 h2 => h i (by omega) (by omega))]
theorem qf_shift (f : Nat → Nat) : ∀ d k, qf f d (k + 1) = qf (fun i => f (i + 1)) d k
  | 0, _ => rfl
  | d + 1, k => by
    show f (k + 1) :: qf f d (k + 1 + 1) = f (k + 1) :: qf (fun i => f (i + 1)) d (k + 1)
    rw [qf_shift f d (k + 1)]
theorem qf_mem {f : Nat → Nat} {c : Nat} : ∀ d k, c ∈ qf f d k → ∃ i, k ≤ i ∧ i < k + d ∧ f i = c
  | 0, _, h => by cases h
  | d + 1, k, h => by
    rcases List.mem_cons.mp h with rfl | h'
    · exact ⟨k, Nat.le_refl _, by omega, rfl⟩
    · obtain ⟨i, h1, h2, h3⟩ := qf_mem d (k + 1) h'
      exact ⟨i, by omega, by omega, h3⟩
theorem qf_split (f : Nat → Nat) : ∀ d k j, j < d → qf f d k = qf f j k ++ f (k + j) :: qf f (d - j - 1) (k + j + 1)
  | 0, _, _, h => by omega
  | d + 1, k, 0, _ => by
    show f k :: qf f d (k + 1) = [] ++ f (k + 0) :: qf f (d + 1 - 0 - 1) (k + 0 + 1)
    rfl
  | d + 1, k, j + 1, h => by
    show f k :: qf f d (k + 1) = (f k :: qf f j (k + 1)) ++ f (k + (j + 1)) :: qf f (d + 1 - (j + 1) - 1) (k + (j + 1) + 1)
    rw [qf_split f d (k + 1) j (by omega), show k + 1 + j = k + (j + 1) by omega, show d - j - 1 = d + 1 - (j + 1) - 1 by omega]
    rfl
/-- what is on the way to a side -/
def QL (a : AS) (t : Nat) : List Nat := qf (fun k => tn (a 21 (pl a t k))) (tn (a 20 t)) 0
theorem QL_len (a : AS) (t : Nat) : (QL a t).length = tn (a 20 t) := qf_len _ _ _
theorem QL_congr {a b : AS} {t : Nat} (h1 : b 19 t = a 19 t) (h2 : b 20 t = a 20 t) (h3 : b 21 = a 21) : QL b t = QL a t := by
  unfold QL pl
  rw [h1, h2, h3]
theorem QL_goes {a : AS} {s n f : Nat} (hs : s < 2) (hc : tn (a 20 (1 - s)) < 65536) (hn : n ≤ 8190) (hf : f ≤ 8191) : QL (gGoes a s n f) (1 - s) = QL a (1 - s) ++ [2 * (8192 * n + f)] ∧ QL (gGoes a s n f) s = QL a s := by
  generalize hcc : tn (a 20 (1 - s)) = c at hc
  have e19 : ∀ t, gGoes a s n f 19 t = a 19 t := fun t => gGoes_k _ _ _ _ _ _ (by decide) (by decide) (by decide)
  have e20 : gGoes a s n f 20 (1 - s) = nI (c + 1) := by
    unfold gGoes
    rw [hcc, up2_n _ _ (by omega), up2_s]
  have e20' : gGoes a s n f 20 s = a 20 s := by
    unfold gGoes
    rw [up2_n _ _ (by omega), up2_n _ _ (by omega), up2_n _ _ (by omega)]
  have epl : ∀ t k, pl (gGoes a s n f) t k = pl a t k := fun t k => by unfold pl; rw [e19]
  have e21 : ∀ i, gGoes a s n f 21 i = if i = pl a (1 - s) c then nI (2 * (8192 * n + f)) else a 21 i := fun i => by
    unfold gGoes
    rw [hcc, up2_n _ _ (by omega), up2_n _ _ (by omega)]
    by_cases c1 : i = pl a (1 - s) c
    · rw [if_pos c1, c1, up2_s]
    · rw [if_neg c1, up2_n _ _ (by omega)]
  refine ⟨?_, ?_⟩
  · unfold QL
    rw [e20, tnI (by omega), qf_snoc, hcc]
    congr 1
    · refine qf_congr _ _ (fun i _ h2 => ?_)
      show tn (gGoes a s n f 21 (pl (gGoes a s n f) (1 - s) i)) = tn (a 21 (pl a (1 - s) i))
      rw [epl, e21, if_neg]
      unfold pl
      omega
    · show [tn (gGoes a s n f 21 (pl (gGoes a s n f) (1 - s) (0 + c)))] = _
      rw [epl, e21, Nat.zero_add, if_pos rfl, tnI (by omega)]
  · unfold QL
    rw [e20']
    refine qf_congr _ _ (fun i _ h2 => ?_)
    show tn (gGoes a s n f 21 (pl (gGoes a s n f) s i)) = tn (a 21 (pl a s i))
    rw [epl, e21, if_neg]
    unfold pl
    omega
theorem QL_pop {a : AS} {s : Nat} (hs : s < 2) (h1 : 1 ≤ tn (a 20 s)) : QL a s = wyE a s :: QL (gPop a s) s ∧ QL (gPop a s) (1 - s) = QL a (1 - s) := by
  have hlt := tn_lt (a 20 s)
  obtain ⟨k, hk⟩ : ∃ k, tn (a 20 s) = k + 1 := ⟨tn (a 20 s) - 1, by omega⟩
  have e20 : gPop a s 20 s = nI k := by unfold gPop; rw [up2_s, hk]; rfl
  have e19 : gPop a s 19 s = nI ((tn (a 19 s) + 1) % 65536) := by unfold gPop; rw [up2_n _ _ (by omega), up2_s]
  have e19' : gPop a s 19 (1 - s) = a 19 (1 - s) := by unfold gPop; rw [up2_n _ _ (by omega), up2_n _ _ (by omega)]
  have e20' : gPop a s 20 (1 - s) = a 20 (1 - s) := by unfold gPop; rw [up2_n _ _ (by omega), up2_n _ _ (by omega)]
  have e21 : gPop a s 21 = a 21 := rfl
  refine ⟨?_, QL_congr e19' e20' e21⟩
  unfold QL
  rw [hk, e20, tnI (by omega), e21]
  show tn (a 21 (pl a s 0)) :: qf _ k (0 + 1) = wyE a s :: _
  rw [qf_shift]
  show wyE a s :: _ = wyE a s :: _
  congr 1
  refine qf_congr _ _ (fun i _ _ => ?_)
  show tn (a 21 (pl a s (i + 1))) = tn (a 21 (pl (gPop a s) s i))
  congr 2
  unfold pl
  rw [e19, tnI (by omega)]
  omega
theorem QL_garble {a : AS} {s k : Nat} (hs : s < 2) (hk : k < tn (a 20 s)) (h6 : tn (a 20 s) ≤ 65536) (hb : tn (a 21 (pl a s k)) < 2 ^ 30) : (∃ (l : List Nat) (c : Nat) (r : List Nat), QL a s = l ++ c :: r ∧ QL (gGarble a s k) s = l ++ (c / 2 * 2 + 1) :: r) ∧ QL (gGarble a s k) (1 - s) = QL a (1 - s) := by
  have e19 : ∀ t, gGarble a s k 19 t = a 19 t := fun t => by unfold gGarble; rw [up2_n _ _ (by omega), up2_n _ _ (by omega)]
  have e20 : ∀ t, gGarble a s k 20 t = a 20 t := fun t => by unfold gGarble; rw [up2_n _ _ (by omega), up2_n _ _ (by omega)]
  have epl : ∀ t k', pl (gGarble a s k) t k' = pl a t k' := fun t k' => by unfold pl; rw [e19]
  have e21 : ∀ i, gGarble a s k 21 i = if i = pl a s k then nI (tn (a 21 (pl a s k)) / 2 * 2 + 1) else a 21 i := fun i => by
    unfold gGarble
    by_cases c1 : i = pl a s k
    · rw [if_pos c1, c1, up2_s]
    · rw [if_neg c1, up2_n _ _ (by omega), up2_n _ _ (by omega)]
  refine ⟨⟨qf (fun k => tn (a 21 (pl a s k))) k 0, tn (a 21 (pl a s k)), qf (fun k => tn (a 21 (pl a s k))) (tn (a 20 s) - k - 1) (k + 1), ?_, ?_⟩, ?_⟩
  · unfold QL
    rw [qf_split _ _ 0 k hk, Nat.zero_add]
  · unfold QL
    rw [e20, qf_split _ _ 0 k hk, Nat.zero_add]
    congr 1
    · refine qf_congr _ _ (fun i _ h2 => ?_)
      show tn (gGarble a s k 21 (pl (gGarble a s k) s i)) = tn (a 21 (pl a s i))
      rw [epl, e21, if_neg]
      unfold pl
      omega
    · congr 1
      · show tn (gGarble a s k 21 (pl (gGarble a s k) s k)) = _
        rw [epl, e21, if_pos rfl, tnI (by omega)]
      · refine qf_congr _ _ (fun i h1 h2 => ?_)
        show tn (gGarble a s k 21 (pl (gGarble a s k) s i)) = tn (a 21 (pl a s i))
        rw [epl, e21, if_neg]
        unfold pl
        omega
  · unfold QL
    rw [e20]
    refine qf_congr _ _ (fun i _ h2 => ?_)
    show tn (gGarble a s k 21 (pl (gGarble a s k) (1 - s) i)) = tn (a 21 (pl a (1 - s) i))
    rw [epl, e21, if_neg]
    unfold pl
    omega
theorem QL_nil {a : AS} {t : Nat} (h : a 20 t = nI 0) : QL a t = [] := by
  unfold QL
  rw [h]
  rfl
theorem QL_mem {a : AS} {t c : Nat} (h : c ∈ QL a t) : ∃ k, k < tn (a 20 t) ∧ tn (a 21 (pl a t k)) = c := by
  obtain ⟨i, h1, h2, h3⟩ := qf_mem _ _ h
  exact ⟨i, by omega, h3⟩
/-! Runs in a log: f the kinds by number; app: 5 or more. -/
def apF (f : Nat → Nat) : Nat → Nat
  | 0 => 0
  | n + 1 => apF f n + (if 5 ≤ f (n + 1) then 1 else 0)
def srF (f : Nat → Nat) : Nat → Nat
  | 0 => 0
  | n + 1 => srF f n + (if f (n + 1) < 5 ∧ (n = 0 ∨ 5 ≤ f n) then 1 else 0)
def grF (f : Nat → Nat) : Nat → Nat
  | 0 => 0
  | n + 1 => grF f n + (if 5 ≤ f (n + 1) ∧ (n = 0 ∨ f n < 5) then 1 else 0)
theorem apF_congr {f g : Nat → Nat} : ∀ n, (∀ i, 1 ≤ i → i ≤ n → f i = g i) → apF f n = apF g n ∧ srF f n = srF g n ∧ grF f n = grF g n
  | 0, _ => ⟨rfl, rfl, rfl⟩
  | n + 1, h => by
    obtain ⟨h1, h2, h3⟩ := apF_congr n (fun i i1 i2 => h i i1 (by omega))
    have e1 := h (n + 1) (by omega) (by omega)
    have e2 : n = 0 ∨ f n = g n := by
      by_cases c : n = 0
      · exact Or.inl c
      · exact Or.inr (h n (by omega) (by omega))
    refine ⟨?_, ?_, ?_⟩
    · show apF f n + _ = apF g n + _
      rw [h1, e1]
    · show srF f n + _ = srF g n + _
      rw [h2, e1]
      rcases e2 with e2 | e2
      · subst e2; simp
      · rw [e2]
    · show grF f n + _ = grF g n + _
      rw [h3, e1]
      rcases e2 with e2 | e2
      · subst e2; simp
      · rw [e2]
theorem runs_alt (f : Nat → Nat) : ∀ n, srF f n ≤ grF f n + 1 ∧ grF f n ≤ srF f n + 1 ∧ (1 ≤ n → f n < 5 → grF f n ≤ srF f n ∧ 1 ≤ srF f n) ∧ (1 ≤ n → 5 ≤ f n → srF f n ≤ grF f n) ∧ grF f n ≤ apF f n ∧ srF f n ≤ n ∧ apF f n ≤ n
  | 0 => ⟨Nat.zero_le _, Nat.zero_le _, fun h => by omega, fun h => by omega, Nat.le_refl _, Nat.le_refl _, Nat.le_refl _⟩
  | n + 1 => by
    obtain ⟨h1, h2, h3, h4, h5, h6, h7⟩ := runs_alt f n
    have e1 : srF f (n + 1) = srF f n + (if f (n + 1) < 5 ∧ (n = 0 ∨ 5 ≤ f n) then 1 else 0) := rfl
    have e2 : grF f (n + 1) = grF f n + (if 5 ≤ f (n + 1) ∧ (n = 0 ∨ f n < 5) then 1 else 0) := rfl
    have e3 : apF f (n + 1) = apF f n + (if 5 ≤ f (n + 1) then 1 else 0) := rfl
    rw [e1, e2, e3]
    by_cases c0 : n = 0
    · subst c0
      have s0 : srF f 0 = 0 := rfl
      have g0 : grF f 0 = 0 := rfl
      have a0 : apF f 0 = 0 := rfl
      rw [s0, g0, a0]
      by_cases c1 : f (0 + 1) < 5
      · rw [if_pos ⟨c1, Or.inl rfl⟩, if_neg (fun h => by omega), if_neg (by omega)]
        exact ⟨by omega, by omega, fun _ _ => by omega, fun _ h => by omega, by omega, by omega, by omega⟩
      · rw [if_neg (fun h => c1 h.1), if_pos ⟨by omega, Or.inl rfl⟩, if_pos (by omega)]
        exact ⟨by omega, by omega, fun _ h => absurd h c1, fun _ _ => by omega, by omega, by omega, by omega⟩
    · by_cases c1 : f (n + 1) < 5
      · rw [if_neg (show ¬ (5 ≤ f (n + 1) ∧ (n = 0 ∨ f n < 5)) from fun h => by omega), if_neg (show ¬ 5 ≤ f (n + 1) by omega)]
        by_cases c2 : 5 ≤ f n
        · have := h4 (by omega) c2
          rw [if_pos ⟨c1, Or.inr c2⟩]
          exact ⟨by omega, by omega, fun _ _ => by omega, fun _ h => by omega, by omega, by omega, by omega⟩
        · have := h3 (by omega) (by omega)
          rw [if_neg (fun h => h.2.elim c0 c2)]
          exact ⟨by omega, by omega, fun _ _ => by omega, fun _ h => by omega, by omega, by omega, by omega⟩
      · rw [if_neg (show ¬ (f (n + 1) < 5 ∧ (n = 0 ∨ 5 ≤ f n)) from fun h => c1 h.1), if_pos (show 5 ≤ f (n + 1) by omega)]
        by_cases c2 : f n < 5
        · have := h3 (by omega) c2
          rw [if_pos ⟨by omega, Or.inr c2⟩]
          exact ⟨by omega, by omega, fun _ h => absurd h c1, fun _ _ => by omega, by omega, by omega, by omega⟩
        · have := h4 (by omega) (by omega)
          rw [if_neg (fun h => h.2.elim c0 c2)]
          exact ⟨by omega, by omega, fun _ h => absurd h c1, fun _ _ => by omega, by omega, by omega, by omega⟩
/-- the kinds of a side's messages -/
def kF (a : AS) (s : Nat) : Nat → Nat := fun n => tn (a 11 (8192 * s + n))
theorem stays_k {a : AS} {s n : Nat} (hk : ¬ a 11 (8192 * s + n) < 0) : (stays a (8192 * s + n) → kF a s n < 5 ∨ kF a s n = 5) ∧ (¬ stays a (8192 * s + n) → 5 ≤ kF a s n) := by
  obtain ⟨v, hv, e⟩ := nI_of hk
  have ev : kF a s n = v := by unfold kF; rw [e, tnI hv]
  refine ⟨fun h => ?_, fun h => ?_⟩
  · rw [ev]
    rcases h with h | h
    · rw [e] at h
      have := (nI_ltI hv (by decide)).mp h
      omega
    · have h5 := h.1
      rw [e] at h5
      have := (nI_eq hv (by decide)).mp h5
      omega
  · rw [ev]
    rcases Nat.lt_or_ge v 5 with c | c
    · exact absurd (Or.inl (by rw [e]; exact (nI_ltI hv (by decide)).mpr c)) h
    · exact c
theorem ansN_le {s : Nat} {f : Nat → Nat} : ∀ (d n : Nat) (x : AS × Nat), 1 ≤ n → x.2 < n → (∀ m, n ≤ m → m < n + d → ¬ x.1 11 (8192 * s + m) < 0 ∧ kF x.1 s m = f m) → ansN s d n x + apF f (n - 1) + srF f (n - 1) ≤ apF f (n + d - 1) + srF f (n + d - 1) + (if 0 < x.2 then 1 else if 1 < n ∧ f (n - 1) < 5 then 1 else 0) ∧ ansN s d n x ≤ d + (if 0 < x.2 then 1 else 0) := by
  intro d
  induction d with
  | zero =>
    intro n x h1 hx _
    show (if 0 < x.2 then 1 else 0) + _ + _ ≤ _ ∧ _
    rw [Nat.add_zero]
    refine ⟨?_, Nat.le_of_eq (Nat.zero_add _).symm⟩
    split <;> omega
  | succ d ih =>
    intro n x h1 hx hk
    obtain ⟨m, rfl⟩ : ∃ m, n = m + 1 := ⟨n - 1, by omega⟩
    obtain ⟨k1, k2⟩ := hk (m + 1) (Nat.le_refl _) (by omega)
    obtain ⟨st1, st2⟩ := stays_k k1
    rw [k2] at st1 st2
    have hg2 : (gAns1 s x (m + 1)).2 = if stays x.1 (8192 * s + (m + 1)) then (if x.2 = 0 then m + 1 else x.2) else 0 := by
      unfold gAns1
      split <;> rfl
    have hk' : ∀ m', m + 1 + 1 ≤ m' → m' < m + 1 + 1 + d → ¬ (gAns1 s x (m + 1)).1 11 (8192 * s + m') < 0 ∧ kF (gAns1 s x (m + 1)).1 s m' = f m' := fun m' a1 a2 => by
      have e := gAns1_k s x (m + 1) 11 (8192 * s + m') (by decide) (by decide) (by decide) (by decide) (by decide)
      have h' := hk m' (by omega) (by omega)
      unfold kF at h' ⊢
      rw [e]
      exact h'
    have hx' : (gAns1 s x (m + 1)).2 < m + 1 + 1 := by
      rw [hg2]
      split
      · split <;> omega
      · omega
    obtain ⟨i1, i2⟩ := ih (m + 1 + 1) (gAns1 s x (m + 1)) (by omega) hx' hk'
    rw [hg2] at i1 i2
    have eN : ansN s (d + 1) (m + 1) x = ansC s x (m + 1) + ansN s d (m + 1 + 1) (gAns1 s x (m + 1)) := rfl
    have ea : apF f (m + 1) = apF f m + (if 5 ≤ f (m + 1) then 1 else 0) := rfl
    have es : srF f (m + 1) = srF f m + (if f (m + 1) < 5 ∧ (m = 0 ∨ 5 ≤ f m) then 1 else 0) := rfl
    rw [show m + 1 + 1 - 1 = m + 1 by omega, ea, es, show m + 1 + 1 + d - 1 = m + 1 + (d + 1) - 1 by omega] at i1
    rw [eN]
    unfold ansC
    rw [show m + 1 - 1 = m by omega]
    by_cases c : stays x.1 (8192 * s + (m + 1))
    · have f5 := st1 c
      rw [if_pos c] at i1 i2 ⊢
      by_cases c2 : 0 < x.2
      · rw [if_neg (show ¬ x.2 = 0 by omega), if_pos c2] at i1 i2
        rw [if_pos c2]
        refine ⟨?_, by omega⟩
        split at i1 <;> split at i1 <;> omega
      · rw [if_pos (show x.2 = 0 by omega), if_pos (show 0 < m + 1 by omega)] at i1 i2
        rw [if_neg c2]
        refine ⟨?_, by omega⟩
        rcases f5 with f5 | f5
        · rw [if_neg (show ¬ 5 ≤ f (m + 1) by omega)] at i1
          by_cases c3 : m = 0 ∨ 5 ≤ f m
          · rw [if_pos ⟨f5, c3⟩] at i1
            split <;> omega
          · rw [if_neg (fun h => c3 h.2)] at i1
            rw [if_pos ⟨by omega, by omega⟩]
            omega
        · rw [if_pos (show 5 ≤ f (m + 1) by omega), if_neg (fun h => by omega)] at i1
          split <;> omega
    · have f5 := st2 c
      rw [if_neg c] at i1 i2 ⊢
      rw [if_pos f5, if_neg (fun h => by omega), if_neg (show ¬ 0 < 0 by decide), if_neg (fun h => by omega)] at i1
      rw [if_neg (show ¬ 0 < 0 by decide)] at i2
      by_cases c2 : 0 < x.2
      · simp only [if_pos c2]
        exact ⟨by omega, by omega⟩
      · simp only [if_neg c2]
        refine ⟨?_, by omega⟩
        split <;> omega
/-- an answer is at most as long as the log has app messages and runs of others, and as the log -/
theorem ansN_log {a : AS} {s g last : Nat} (hg : 1 ≤ g) (hk : ∀ m, g ≤ m → m ≤ last → ¬ a 11 (8192 * s + m) < 0) : ansN s (last + 1 - g) g (a, 0) ≤ apF (kF a s) last + srF (kF a s) last ∧ ansN s (last + 1 - g) g (a, 0) ≤ last := by
  by_cases c : g ≤ last + 1
  · obtain ⟨h1, h2⟩ := ansN_le (s := s) (f := kF a s) (last + 1 - g) g (a, 0) hg (by show 0 < g; omega) (fun m m1 m2 => ⟨hk m m1 (by omega), rfl⟩)
    rw [show g + (last + 1 - g) - 1 = last by omega, if_neg (show ¬ 0 < (a, (0 : Nat)).2 from Nat.lt_irrefl 0)] at h1
    rw [if_neg (show ¬ 0 < (a, (0 : Nat)).2 from Nat.lt_irrefl 0)] at h2
    have := runs_alt (kF a s) (g - 1)
    refine ⟨?_, by omega⟩
    by_cases c1 : 1 < g ∧ kF a s (g - 1) < 5
    · rw [if_pos c1] at h1
      have := (this.2.2.1 (by omega) c1.2).2
      omega
    · rw [if_neg c1] at h1
      omega
  · rw [show last + 1 - g = 0 by omega]
    exact ⟨Nat.zero_le _, Nat.zero_le _⟩
/-- what an answer puts on the way -/
theorem QL_ans {s last : Nat} (hs : s < 2) (hl : last ≤ 8190) : ∀ (d n : Nat) (x : AS × Nat), n + d = last + 1 → 1 ≤ n → x.2 < n → tn (x.1 20 (1 - s)) + ansN s d n x ≤ 65536 → (∀ m, n ≤ m → m < n + d → ¬ x.1 11 (8192 * s + m) < 0) → ∃ b : List Nat, QL (gAnsE s last (gAnsL s d n x)) (1 - s) = QL x.1 (1 - s) ++ b ∧ QL (gAnsE s last (gAnsL s d n x)) s = QL x.1 s ∧ b.length = ansN s d n x ∧ blk last (if 0 < x.2 then x.2 else n) b ∧ ∀ c, c ∈ b → c % 2 = 0 ∧ (cEf c = 0 → 5 ≤ kF x.1 s (cEn c)) := by
  have key : ∀ {y : AS} {g f : Nat}, 1 ≤ g → g < f → f ≤ last + 1 → cEn (2 * (8192 * g + f)) = g ∧ cNx (2 * (8192 * g + f)) = f ∧ cEf (2 * (8192 * g + f)) = f := fun {y g f} h1 h2 h3 => by
    have e1 : cEn (2 * (8192 * g + f)) = g := by unfold cEn; omega
    have e2 : cEf (2 * (8192 * g + f)) = f := by unfold cEf; omega
    refine ⟨e1, ?_, e2⟩
    unfold cNx
    rw [e1, e2]
    split <;> omega
  intro d
  induction d with
  | zero =>
    intro n x h1 h2 h3 h4 hk0
    have h4' : tn (x.1 20 (1 - s)) + (if 0 < x.2 then 1 else 0) ≤ 65536 := h4
    show ∃ b : List Nat, QL (gAnsE s last x) (1 - s) = _ ∧ QL (gAnsE s last x) s = _ ∧ b.length = (if 0 < x.2 then 1 else 0) ∧ _
    unfold gAnsE
    by_cases c : 0 < x.2
    · rw [if_pos c] at h4'
      rw [if_pos c, if_pos c, if_pos c]
      obtain ⟨q1, q2⟩ := QL_goes (a := x.1) (n := x.2) (f := last + 1) hs (by omega) (by omega) (by omega)
      have hk := key (y := x.1) (show 1 ≤ x.2 by omega) (show x.2 < last + 1 by omega) (Nat.le_refl _)
      refine ⟨_, q1, q2, rfl, ⟨hk.1, ⟨by rw [hk.2.1]; exact Nat.le_refl _, by omega⟩, hk.2.1⟩, fun c hc => ?_⟩
      have : c = 2 * (8192 * x.2 + (last + 1)) := by simpa using hc
      subst this
      exact ⟨by omega, fun h => by omega⟩
    · rw [if_neg c, if_neg c, if_neg c]
      exact ⟨[], by simp, rfl, rfl, by show n = last + 1; omega, fun c hc => by cases hc⟩
  | succ d ih =>
    intro n x h1 h2 h3 h4 hk0
    have eK : ∀ m, kF (gAns1 s x n).1 s m = kF x.1 s m := fun m => by unfold kF; rw [gAns1_k _ _ _ _ _ (by decide) (by decide) (by decide) (by decide) (by decide)]
    have eKn : ∀ m, n + 1 ≤ m → m < n + 1 + d → ¬ (gAns1 s x n).1 11 (8192 * s + m) < 0 := fun m m1 m2 => by
      rw [gAns1_k _ _ _ _ _ (by decide) (by decide) (by decide) (by decide) (by decide)]
      exact hk0 m (by omega) (by omega)
    have hgo : ¬ stays x.1 (8192 * s + n) → 5 ≤ kF x.1 s n := (stays_k (hk0 n (Nat.le_refl _) (by omega))).2
    have eN : ansN s (d + 1) n x = ansC s x n + ansN s d (n + 1) (gAns1 s x n) := rfl
    rw [eN] at h4
    rw [eN]
    show ∃ b : List Nat, QL (gAnsE s last (gAnsL s d (n + 1) (gAns1 s x n))) (1 - s) = _ ∧ QL (gAnsE s last (gAnsL s d (n + 1) (gAns1 s x n))) s = _ ∧ _
    by_cases c : stays x.1 (8192 * s + n)
    · have eg : gAns1 s x n = (gLeave x.1 (8192 * s + n), if x.2 = 0 then n else x.2) := by unfold gAns1; rw [if_pos c]
      have eq : ∀ t, QL (gLeave x.1 (8192 * s + n)) t = QL x.1 t := fun t => QL_congr (gLeave_k _ _ _ _ (by decide)) (gLeave_k _ _ _ _ (by decide)) (funext fun i => gLeave_k _ _ _ _ (by decide))
      have eC : ansC s x n = 0 := by unfold ansC; rw [if_pos c]
      rw [eC, eg] at h4
      rw [eg] at eK eKn
      rw [eC, eg]
      obtain ⟨b, b1, b2, b3, b4, b5⟩ := ih (n + 1) (gLeave x.1 (8192 * s + n), if x.2 = 0 then n else x.2) (by omega) (by omega) (by show (if x.2 = 0 then n else x.2) < n + 1; split <;> omega) (by show tn (gLeave x.1 (8192 * s + n) 20 (1 - s)) + _ ≤ _; rw [gLeave_k _ _ _ _ (by decide)]; omega) eKn
      refine ⟨b, b1.trans (by rw [eq]), b2.trans (eq _), by omega, ?_, fun c hc => ⟨(b5 c hc).1, fun h0 => by rw [← eK]; exact (b5 c hc).2 h0⟩⟩
      have b4' : blk last (if 0 < (if x.2 = 0 then n else x.2) then (if x.2 = 0 then n else x.2) else n + 1) b := b4
      by_cases c2 : x.2 = 0
      · rw [if_pos c2, if_pos (by omega)] at b4'
        rw [if_neg (by omega)]
        exact b4'
      · rw [if_neg c2, if_pos (by omega)] at b4'
        rw [if_pos (by omega)]
        exact b4'
    · have eC : ansC s x n = if 0 < x.2 then 2 else 1 := by unfold ansC; rw [if_neg c]
      have eg : gAns1 s x n = (gGoes (up2 (if 0 < x.2 then gGoes (gLeave x.1 (8192 * s + n)) s x.2 n else gLeave x.1 (8192 * s + n)) 13 (8192 * s + n) (nI 1)) s n 0, 0) := by unfold gAns1; rw [if_neg c]
      have eq : ∀ t, QL (gLeave x.1 (8192 * s + n)) t = QL x.1 t := fun t => QL_congr (gLeave_k _ _ _ _ (by decide)) (gLeave_k _ _ _ _ (by decide)) (funext fun i => gLeave_k _ _ _ _ (by decide))
      have e20 : tn (gLeave x.1 (8192 * s + n) 20 (1 - s)) = tn (x.1 20 (1 - s)) := by rw [gLeave_k _ _ _ _ (by decide)]
      have hn : cEn (2 * (8192 * n + 0)) = n := by unfold cEn; omega
      have hnf : cEf (2 * (8192 * n + 0)) ≠ 1 := by unfold cEf; omega
      have hnx : cNx (2 * (8192 * n + 0)) = n + 1 := by rw [cNx_0 (by unfold cEf; omega), hn]
      rw [eC, eg] at h4
      rw [eg] at eK eKn
      rw [eC, eg]
      by_cases c2 : 0 < x.2
      · simp only [if_pos c2] at h4 eK eKn ⊢
        obtain ⟨q1, q2⟩ := QL_goes (a := gLeave x.1 (8192 * s + n)) (s := s) (n := x.2) (f := n) hs (by omega) (by omega) (by omega)
        have l1 := QL_len (gGoes (gLeave x.1 (8192 * s + n)) s x.2 n) (1 - s)
        rw [q1, List.length_append, QL_len, e20, List.length_cons, List.length_nil] at l1
        obtain ⟨p1, p2⟩ := QL_goes (a := up2 (gGoes (gLeave x.1 (8192 * s + n)) s x.2 n) 13 (8192 * s + n) (nI 1)) (s := s) (n := n) (f := 0) hs (by show tn (gGoes (gLeave x.1 (8192 * s + n)) s x.2 n 20 (1 - s)) < _; omega) (by omega) (by omega)
        have l2 := QL_len (gGoes (up2 (gGoes (gLeave x.1 (8192 * s + n)) s x.2 n) 13 (8192 * s + n) (nI 1)) s n 0) (1 - s)
        rw [p1, List.length_append, QL_len, List.length_cons, List.length_nil] at l2
        have l2' : tn (gGoes (gLeave x.1 (8192 * s + n)) s x.2 n 20 (1 - s)) + (0 + 1) = tn (gGoes (up2 (gGoes (gLeave x.1 (8192 * s + n)) s x.2 n) 13 (8192 * s + n) (nI 1)) s n 0 20 (1 - s)) := l2
        obtain ⟨b, b1, b2, b3, b4, b5⟩ := ih (n + 1) (gGoes (up2 (gGoes (gLeave x.1 (8192 * s + n)) s x.2 n) 13 (8192 * s + n) (nI 1)) s n 0, 0) (by omega) (by omega) (by show 0 < n + 1; omega) (by show tn (gGoes (up2 (gGoes (gLeave x.1 (8192 * s + n)) s x.2 n) 13 (8192 * s + n) (nI 1)) s n 0 20 (1 - s)) + _ ≤ _; omega) eKn
        have hk := key (y := x.1) (show 1 ≤ x.2 by omega) (show x.2 < n by omega) (by omega)
        refine ⟨2 * (8192 * x.2 + n) :: 2 * (8192 * n + 0) :: b, ?_, ?_, ?_, ⟨hk.1, ⟨by rw [hk.2.1]; omega, by omega⟩, ?_⟩, ?_⟩
        · rw [b1]
          show QL (gGoes _ s n 0) (1 - s) ++ b = _
          rw [p1]
          show (QL (gGoes (gLeave x.1 (8192 * s + n)) s x.2 n) (1 - s) ++ _) ++ b = _
          rw [q1, eq, List.append_assoc, List.append_assoc]
          rfl
        · rw [b2]
          show QL (gGoes _ s n 0) s = _
          rw [p2]
          show QL (gGoes (gLeave x.1 (8192 * s + n)) s x.2 n) s = _
          rw [q2, eq]
        · show b.length + 1 + 1 = _
          omega
        · rw [hk.2.1]
          exact ⟨hn, ⟨by rw [hnx]; omega, hnf⟩, by rw [hnx]; exact b4⟩
        · intro c' hc
          rcases List.mem_cons.mp hc with rfl | hc
          · exact ⟨by omega, fun h => by omega⟩
          · rcases List.mem_cons.mp hc with rfl | hc
            · exact ⟨by omega, fun _ => by rw [hn]; exact hgo c⟩
            · exact ⟨(b5 _ hc).1, fun h0 => by rw [← eK]; exact (b5 _ hc).2 h0⟩
      · simp only [if_neg c2] at h4 eK eKn ⊢
        obtain ⟨p1, p2⟩ := QL_goes (a := up2 (gLeave x.1 (8192 * s + n)) 13 (8192 * s + n) (nI 1)) (s := s) (n := n) (f := 0) hs (by show tn (gLeave x.1 (8192 * s + n) 20 (1 - s)) < _; omega) (by omega) (by omega)
        have l2 := QL_len (gGoes (up2 (gLeave x.1 (8192 * s + n)) 13 (8192 * s + n) (nI 1)) s n 0) (1 - s)
        rw [p1, List.length_append, QL_len, List.length_cons, List.length_nil] at l2
        have l2' : tn (gLeave x.1 (8192 * s + n) 20 (1 - s)) + (0 + 1) = tn (gGoes (up2 (gLeave x.1 (8192 * s + n)) 13 (8192 * s + n) (nI 1)) s n 0 20 (1 - s)) := l2
        obtain ⟨b, b1, b2, b3, b4, b5⟩ := ih (n + 1) (gGoes (up2 (gLeave x.1 (8192 * s + n)) 13 (8192 * s + n) (nI 1)) s n 0, 0) (by omega) (by omega) (by show 0 < n + 1; omega) (by show tn (gGoes (up2 (gLeave x.1 (8192 * s + n)) 13 (8192 * s + n) (nI 1)) s n 0 20 (1 - s)) + _ ≤ _; omega) eKn
        refine ⟨2 * (8192 * n + 0) :: b, ?_, ?_, ?_, ⟨hn, ⟨by rw [hnx]; omega, hnf⟩, by rw [hnx]; exact b4⟩, ?_⟩
        · rw [b1]
          show QL (gGoes _ s n 0) (1 - s) ++ b = _
          rw [p1]
          show (QL (gLeave x.1 (8192 * s + n)) (1 - s) ++ _) ++ b = _
          rw [eq, List.append_assoc]
          rfl
        · rw [b2]
          show QL (gGoes _ s n 0) s = _
          rw [p2]
          exact eq _
        · show b.length + 1 = _
          omega
        · intro c' hc
          rcases List.mem_cons.mp hc with rfl | hc
          · exact ⟨by omega, fun _ => by rw [hn]; exact hgo c⟩
          · exact ⟨(b5 _ hc).1, fun h0 => by rw [← eK]; exact (b5 _ hc).2 h0⟩
