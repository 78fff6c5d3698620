/-! How much may still be executed; an execution. -/
variable {Hh : Nat → Nat}
noncomputable def cPr (p : Nat → Prop) : Nat → Nat
  | 0 => 0
  | n + 1 => cPr p n + @ite _ (p n) (Classical.propDecidable _) 1 0
theorem cPr_s (p : Nat → Prop) (n : Nat) : (p n → cPr p (n + 1) = cPr p n + 1) ∧ (¬ p n → cPr p (n + 1) = cPr p n) := by
  constructor
  · intro h; show cPr p n + @ite _ (p n) (Classical.propDecidable _) 1 0 = _; rw [if_pos h]
  · intro h; show cPr p n + @ite _ (p n) (Classical.propDecidable _) 1 0 = _; rw [if_neg h]; omega
theorem cPr_le (p : Nat → Prop) : ∀ n, cPr p n ≤ n
  | 0 => Nat.le_refl 0
  | n + 1 => by
    have := cPr_le p n
    by_cases h : p n
    · rw [(cPr_s p n).1 h]; omega
    · rw [(cPr_s p n).2 h]; omega
theorem cPr_mono {p q : Nat → Prop} : ∀ n, (∀ i, i < n → p i → q i) → cPr p n ≤ cPr q n
  | 0, _ => Nat.le_refl 0
  | n + 1, h => by
    have := cPr_mono n (fun i hi => h i (by omega))
    by_cases h1 : p n
    · rw [(cPr_s p n).1 h1, (cPr_s q n).1 (h n (by omega) h1)]; omega
    · rw [(cPr_s p n).2 h1]
      by_cases h2 : q n
      · rw [(cPr_s q n).1 h2]; omega
      · rw [(cPr_s q n).2 h2]; omega
theorem cPr_lt {p q : Nat → Prop} : ∀ n j, j < n → q j → ¬ p j → (∀ i, i < n → p i → q i) → cPr p n + 1 ≤ cPr q n
  | 0, j, hj, _, _, _ => by omega
  | n + 1, j, hj, hq, hp, h => by
    by_cases e : j = n
    · subst e
      have := cPr_mono j (fun i hi => h i (by omega))
      rw [(cPr_s p j).2 hp, (cPr_s q j).1 hq]; omega
    · have := cPr_lt n j (by omega) hq hp (fun i hi => h i (by omega))
      by_cases h1 : p n
      · rw [(cPr_s p n).1 h1, (cPr_s q n).1 (h n (by omega) h1)]; omega
      · rw [(cPr_s p n).2 h1]
        by_cases h2 : q n
        · rw [(cPr_s q n).1 h2]; omega
        · rw [(cPr_s q n).2 h2]; omega
theorem cPr_pos {p : Nat → Prop} : ∀ n j, j < n → p j → 1 ≤ cPr p n
  | 0, j, hj, _ => by omega
  | n + 1, j, hj, h => by
    by_cases e : j = n
    · subst e; rw [(cPr_s p j).1 h]; omega
    · have := cPr_pos n j (by omega) h
      by_cases h1 : p n
      · rw [(cPr_s p n).1 h1]; omega
      · rw [(cPr_s p n).2 h1]; omega
def hasQ (a : AS) (q : Nat) : Prop := a 34 q ≠ nI 0
def hasL (a : AS) (o : Nat) : Prop := a 24 (40 + o) = nI 0 ∨ lft a (40 + o) ≠ nI 0
/-- at most so many executions more, from now on -/
noncomputable def phi (a : AS) : Nat := cPr (hasQ a) 6 + cPr (hasL a) 10
theorem phi_le (a : AS) : phi a ≤ 16 := by have h1 := cPr_le (hasQ a) 6; have h2 := cPr_le (hasL a) 10; unfold phi; omega
theorem phi_c {a b : AS} (h1 : ∀ q, q < 6 → a 34 q = nI 0 → b 34 q = nI 0) (h2 : ∀ o, o < 10 → ¬ a 24 (40 + o) = nI 0 → lft a (40 + o) = nI 0 → ¬ b 24 (40 + o) = nI 0 ∧ lft b (40 + o) = nI 0) : phi b ≤ phi a := by
  have g1 := cPr_mono (p := hasQ b) (q := hasQ a) 6 (fun q hq h z => h (h1 q hq z))
  have g2 := cPr_mono (p := hasL b) (q := hasL a) 10 (fun o ho h => by
    by_cases c1 : a 24 (40 + o) = nI 0
    · exact Or.inl c1
    · refine Or.inr fun c2 => ?_
      obtain ⟨d1, d2⟩ := h2 o ho c1 c2
      rcases h with h | h
      · exact d1 h
      · exact h d2)
  unfold phi; omega
theorem phi_trade {a : AS} {o q : Nat} (ho : o < 10) (hq : q < 6) (h24 : ¬ a 24 (40 + o) = nI 0) (hL : ¬ lft a (40 + o) = nI 0) (hZ : ¬ a 34 q = nI 0) : phi (gTrade a o q (itsOf a o q)) + 1 ≤ phi a ∧ 2 ≤ phi a := by
  have e34 : ∀ i, gTrade a o q (itsOf a o q) 34 i = if i = q then a 34 q - itsOf a o q else a 34 i := fun i => by
    unfold gTrade
    by_cases e : i = q
    · subst e; rw [if_pos rfl, up2_s]
    · rw [if_neg e]; simp (disch := omega) only [up2_n]
  have e24 : ∀ i, gTrade a o q (itsOf a o q) 24 i = a 24 i := fun i => gTrade_k _ _ _ _ _ _ (by decide) (by decide) (by decide) (by omega)
  have eL : ∀ i, lft (gTrade a o q (itsOf a o q)) i = if i = 40 + o then lft a (40 + o) - itsOf a o q else lft a i := fun i => by
    have e26 : gTrade a o q (itsOf a o q) 26 i = a 26 i := gTrade_k _ _ _ _ _ _ (by decide) (by decide) (by decide) (by omega)
    have e28 : gTrade a o q (itsOf a o q) 28 i = a 28 i := gTrade_k _ _ _ _ _ _ (by decide) (by decide) (by decide) (by omega)
    have e27 : gTrade a o q (itsOf a o q) 27 i = if i = 40 + o then a 27 (40 + o) + itsOf a o q else a 27 i := by
      unfold gTrade
      by_cases e : i = 40 + o
      · subst e; rw [if_pos rfl]; simp (disch := omega) only [up2_n, up2_s]
      · rw [if_neg e]; simp (disch := omega) only [up2_n]
    show gTrade a o q (itsOf a o q) 26 i - gTrade a o q (itsOf a o q) 27 i - gTrade a o q (itsOf a o q) 28 i = _
    rw [e26, e27, e28]
    by_cases e : i = 40 + o
    · subst e
      rw [if_pos rfl, if_pos rfl]
      generalize itsOf a o q = I
      show a 26 (40 + o) - (a 27 (40 + o) + I) - a 28 (40 + o) = a 26 (40 + o) - a 27 (40 + o) - a 28 (40 + o) - I
      apply Int32.toBitVec_inj.mp
      simp only [Int32.toBitVec_sub, Int32.toBitVec_add]
      simp only [BitVec.sub_eq_add_neg, BitVec.neg_add]
      ac_rfl
    · rw [if_neg e, if_neg e]
  have sub0 : ∀ x : Int32, x - x = nI 0 := fun x => Int32.sub_self x
  have mQ : ∀ i, i < 6 → hasQ (gTrade a o q (itsOf a o q)) i → hasQ a i := fun i _ h => by
    by_cases e : i = q
    · rw [e]; exact hZ
    · unfold hasQ at h ⊢; rw [e34, if_neg e] at h; exact h
  have mL : ∀ i, i < 10 → hasL (gTrade a o q (itsOf a o q)) i → hasL a i := fun i _ h => by
    by_cases e : i = o
    · rw [e]; exact Or.inr hL
    · unfold hasL at h ⊢; rw [eL, if_neg (by omega), e24] at h; exact h
  have p1 := cPr_mono 6 mQ
  have p2 := cPr_mono 10 mL
  have q1 := cPr_pos (p := hasQ a) 6 q hq hZ
  have q2 := cPr_pos (p := hasL a) 10 o ho (Or.inr hL)
  refine ⟨?_, by unfold phi; omega⟩
  by_cases c : a 34 q ≤ lft a (40 + o)
  · have := cPr_lt 6 q hq (p := hasQ (gTrade a o q (itsOf a o q))) (q := hasQ a) hZ (fun z => z (by rw [e34, if_pos rfl, show itsOf a o q = a 34 q from if_pos c]; exact sub0 _)) mQ
    unfold phi; omega
  · have := cPr_lt 10 o ho (p := hasL (gTrade a o q (itsOf a o q))) (q := hasL a) (Or.inr hL) (fun z => z.elim (fun z => h24 (by rw [← e24]; exact z)) (fun z => z (by rw [eL, if_pos rfl, show itsOf a o q = lft a (40 + o) from if_neg c]; exact sub0 _))) mL
    unfold phi; omega
theorem nL_mul (a b : Nat) : nL a * nL b = nL (a * b) := (Int64.ofNat_mul a b).symm
theorem e_code {o q dy I pr : Nat} (h1 : o < 2 ^ 31) (h2 : q < 2 ^ 31) (h3 : dy < 2 ^ 31) (h4 : I < 2 ^ 31) (h5 : pr < 2 ^ 31) : Int32.toInt64 (nI o) + (16 : Int64) * Int32.toInt64 (nI q) + (64 : Int64) * Int32.toInt64 (nI dy) + (Int32.toInt64 (nI I) <<< (Int32.toInt64 (14 : Int32) &&& 63)) + (Int32.toInt64 (nI pr) <<< (Int32.toInt64 (21 : Int32) &&& 63)) + (Int32.toInt64 (nI pr) <<< (Int32.toInt64 (28 : Int32) &&& 63)) = nL (ecode o q dy I pr pr 0 0 0 0) := by
  rw [nI_L _ h1, nI_L _ h2, nI_L _ h3, nI_L _ h4, nI_L _ h5, show (16 : Int64) = nL 16 from rfl, show (64 : Int64) = nL 64 from rfl, nL_mul, nL_mul, show (14 : Int32) = nI 14 from rfl, show (21 : Int32) = nI 21 from rfl, show (28 : Int32) = nI 28 from rfl, L_sh _ _ (by decide), L_sh _ _ (by decide), L_sh _ _ (by decide), nL_add, nL_add, nL_add, nL_add, nL_add]
  congr 1
  unfold ecode
  omega
theorem up2_r {α : Type} (f : Nat → Nat → α) (k i : Nat) (v : α) : up2 f k i v k = up1 (f k) i v := up1_s _ _ _
def trB (b : AS) (o q E : Nat) (V : Int64) (I : Int32) : AS := up2 (up2 (up2 (wLg b 13 E V) 1 19 (nI (E + 1))) 10 (10 + o) (b 10 (10 + o) + I)) 14 q (b 14 q - I)
/-- LR Hh behind an execution -/
theorem lr_trade {b a : AS} {o q E D I pr sz : Nat} (h : LR Hh b a) (ho : o < 10) (hq : q < 6) (e35 : a 0 35 = nI E) (hE : E + 1 ≤ 60) (e44 : a 0 44 = nI D) (hD : D < 256) (hI : I ≤ 100) (hIz : I ≤ sz) (hp : pr ≤ 100) (hz : sz ≤ 200) (hb : b 14 q = nI (sz + 256 * pr)) (e34 : a 34 q = nI sz) (e33 : a 33 q = nI pr) (hm6 : a 41 E = nI 0 ∧ a 42 E = nI 0 ∧ a 43 (100 + E) = nI 0 ∧ a 43 E = nI 0) : LR Hh (trB b o q E (nL (ecode o (q / 2) D I pr pr 0 0 0 0)) (nI I)) (gTrade a o q (nI I)) := by
  obtain ⟨l0, l1, l2, l3, l4, l5, l6, l7, l8⟩ := h
  have hn : tn (a 0 35) = E := by rw [e35]; exact tnI (by omega)
  have q2 : q / 2 < 3 := by omega
  have r36 : gTrade a o q (nI I) 36 = up1 (a 36) E (nI o) := by unfold gTrade; rw [hn, up2_k _ _ (by decide), up2_k _ _ (by decide), up2_k _ _ (by decide), up2_k _ _ (by decide), up2_k _ _ (by decide), up2_k _ _ (by decide), up2_k _ _ (by decide), up2_k _ _ (by decide), up2_k _ _ (by decide), up2_r]
  have r37 : gTrade a o q (nI I) 37 = up1 (a 37) E (nI (q / 2)) := by unfold gTrade; rw [hn, up2_k _ _ (by decide), up2_k _ _ (by decide), up2_k _ _ (by decide), up2_k _ _ (by decide), up2_k _ _ (by decide), up2_k _ _ (by decide), up2_k _ _ (by decide), up2_k _ _ (by decide), up2_r, up2_k _ _ (by decide)]
  have r38 : gTrade a o q (nI I) 38 = up1 (a 38) E (a 0 44) := by unfold gTrade; rw [hn, up2_k _ _ (by decide), up2_k _ _ (by decide), up2_k _ _ (by decide), up2_k _ _ (by decide), up2_k _ _ (by decide), up2_k _ _ (by decide), up2_k _ _ (by decide), up2_r, up2_k _ _ (by decide), up2_k _ _ (by decide)]
  have r39 : gTrade a o q (nI I) 39 = up1 (a 39) E (nI I) := by unfold gTrade; rw [hn, up2_k _ _ (by decide), up2_k _ _ (by decide), up2_k _ _ (by decide), up2_k _ _ (by decide), up2_k _ _ (by decide), up2_k _ _ (by decide), up2_r, up2_k _ _ (by decide), up2_k _ _ (by decide), up2_k _ _ (by decide)]
  have r40 : gTrade a o q (nI I) 40 = up1 (a 40) E (a 33 q) := by unfold gTrade; rw [hn, up2_k _ _ (by decide), up2_k _ _ (by decide), up2_k _ _ (by decide), up2_k _ _ (by decide), up2_k _ _ (by decide), up2_r, up2_k _ _ (by decide), up2_k _ _ (by decide), up2_k _ _ (by decide), up2_k _ _ (by decide)]
  have r41 : gTrade a o q (nI I) 41 = up1 (a 41) (100 + E) (a 33 q) := by unfold gTrade; rw [hn, up2_k _ _ (by decide), up2_k _ _ (by decide), up2_k _ _ (by decide), up2_k _ _ (by decide), up2_r, up2_k _ _ (by decide), up2_k _ _ (by decide), up2_k _ _ (by decide), up2_k _ _ (by decide), up2_k _ _ (by decide)]
  have r42 : gTrade a o q (nI I) 42 = up1 (a 42) (100 + E) (nI 1) := by unfold gTrade; rw [hn, up2_k _ _ (by decide), up2_k _ _ (by decide), up2_k _ _ (by decide), up2_r, up2_k _ _ (by decide), up2_k _ _ (by decide), up2_k _ _ (by decide), up2_k _ _ (by decide), up2_k _ _ (by decide), up2_k _ _ (by decide)]
  have r0 : gTrade a o q (nI I) 0 = up1 (a 0) 35 (nI (E + 1)) := by unfold gTrade; rw [hn, up2_k _ _ (by decide), up2_k _ _ (by decide), up2_r, up2_k _ _ (by decide), up2_k _ _ (by decide), up2_k _ _ (by decide), up2_k _ _ (by decide), up2_k _ _ (by decide), up2_k _ _ (by decide), up2_k _ _ (by decide)]
  have r27 : gTrade a o q (nI I) 27 = up1 (a 27) (40 + o) (a 27 (40 + o) + nI I) := by unfold gTrade; rw [hn, up2_k _ _ (by decide), up2_r, up2_k _ _ (by decide), up2_k _ _ (by decide), up2_k _ _ (by decide), up2_k _ _ (by decide), up2_k _ _ (by decide), up2_k _ _ (by decide), up2_k _ _ (by decide), up2_k _ _ (by decide)]
  have r34 : gTrade a o q (nI I) 34 = up1 (a 34) q (a 34 q - nI I) := by unfold gTrade; rw [hn, up2_r, up2_k _ _ (by decide), up2_k _ _ (by decide), up2_k _ _ (by decide), up2_k _ _ (by decide), up2_k _ _ (by decide), up2_k _ _ (by decide), up2_k _ _ (by decide), up2_k _ _ (by decide), up2_k _ _ (by decide)]
  have rk : ∀ k, (k ≠ 36 ∧ k ≠ 37 ∧ k ≠ 38 ∧ k ≠ 39 ∧ k ≠ 40 ∧ k ≠ 41 ∧ k ≠ 42 ∧ k ≠ 0 ∧ k ≠ 27 ∧ k ≠ 34) → gTrade a o q (nI I) k = a k := fun k hk => by
    obtain ⟨k1, k2, k3, k4, k5, k6, k7, k8, k9, k10⟩ := hk
    unfold gTrade
    rw [up2_k _ _ k10, up2_k _ _ k9, up2_k _ _ k8, up2_k _ _ k7, up2_k _ _ k6, up2_k _ _ k5, up2_k _ _ k4, up2_k _ _ k3, up2_k _ _ k2, up2_k _ _ k1]
  generalize gTrade a o q (nI I) = a' at *
  have b1 : trB b o q E (nL (ecode o (q / 2) D I pr pr 0 0 0 0)) (nI I) 1 = up1 (b 1) 19 (nI (E + 1)) := by unfold trB; rw [up2_k _ _ (by decide), up2_k _ _ (by decide), up2_r, wLg_k (by decide)]
  have b10 : trB b o q E (nL (ecode o (q / 2) D I pr pr 0 0 0 0)) (nI I) 10 = up1 (b 10) (10 + o) (b 10 (10 + o) + nI I) := by unfold trB; rw [up2_k _ _ (by decide), up2_r, up2_k _ _ (by decide), wLg_k (by decide)]
  have b14 : trB b o q E (nL (ecode o (q / 2) D I pr pr 0 0 0 0)) (nI I) 14 = up1 (b 14) q (b 14 q - nI I) := by unfold trB; rw [up2_r, up2_k _ _ (by decide), up2_k _ _ (by decide), wLg_k (by decide)]
  have b13 : trB b o q E (nL (ecode o (q / 2) D I pr pr 0 0 0 0)) (nI I) 13 = wLg b 13 E (nL (ecode o (q / 2) D I pr pr 0 0 0 0)) 13 := by unfold trB; rw [up2_k _ _ (by decide), up2_k _ _ (by decide), up2_k _ _ (by decide)]
  have bk : ∀ k, k ≠ 1 → k ≠ 10 → k ≠ 13 → k ≠ 14 → trB b o q E (nL (ecode o (q / 2) D I pr pr 0 0 0 0)) (nI I) k = b k := fun k k1 k2 k3 k4 => by unfold trB; rw [up2_k _ _ k4, up2_k _ _ k2, up2_k _ _ k1, wLg_k k3]
  generalize trB b o q E (nL (ecode o (q / 2) D I pr pr 0 0 0 0)) (nI I) = b' at *
  have e10 : b 10 (10 + o) = a 27 (40 + o) := (l5 1 o (by decide) ho).2.2.1
  unfold LR
  rw [rk 3 (by decide), rk 4 (by decide), rk 5 (by decide), rk 7 (by decide), rk 8 (by decide), rk 9 (by decide), rk 10 (by decide), rk 20 (by decide), rk 19 (by decide), rk 21 (by decide), rk 11 (by decide), rk 12 (by decide), rk 13 (by decide), rk 14 (by decide), rk 15 (by decide), rk 16 (by decide), rk 17 (by decide), rk 18 (by decide), rk 25 (by decide), rk 26 (by decide), rk 28 (by decide), rk 23 (by decide), rk 24 (by decide), rk 29 (by decide), rk 30 (by decide), rk 31 (by decide), rk 43 (by decide), rk 33 (by decide), r0, r27, r34, r36, r37, r38, r39, r40, r41, r42, b1, b10, b14, b13, bk 8 (by decide) (by decide) (by decide) (by decide), bk 9 (by decide) (by decide) (by decide) (by decide), bk 11 (by decide) (by decide) (by decide) (by decide), bk 12 (by decide) (by decide) (by decide) (by decide)]
  refine ⟨l0, L1_set l1 (Or.inr (Or.inl ⟨rfl, rfl⟩)), fun t ht => ?_, fun t ht => ?_, fun t ht => ?_, ?_, l6, ?_, ?_⟩
  · rw [bk _ (by omega) (by omega) (by omega) (by omega)]; exact l2 t ht
  · rw [bk _ (by omega) (by omega) (by omega) (by omega)]; exact l3 t ht
  · rw [bk _ (by omega) (by omega) (by omega) (by omega)]; exact l4 t ht
  · rw [e10]
    exact L5_d (z := 1) (v := a 27 (40 + o) + nI I) ho l5
  · refine L7_set (o := o) (v := q / 2) (dy := D) (sz := I) (mp := pr) (hp := pr) (tp := 0) (kn := 0) (hb := 0) (tb := 0) l7 hE (fun i hi hne => by rw [hn]; omega) (fun i => rwL_w b 13 E _ i) ?_ (fun i hi hne => ?_)
    · exact ⟨⟨ho, q2, hD, by omega, by omega, by omega, by decide, by decide, by decide, by decide⟩, up1_s _ _ _, up1_s _ _ _, (up1_s _ _ _).trans e44, up1_s _ _ _, (up1_s _ _ _).trans e33, (up1_s _ _ _).trans e33, (up1_n _ _ (by omega)).trans hm6.1, (up1_n _ _ (by omega)).trans hm6.2.1, hm6.2.2.1, hm6.2.2.2⟩
    · rw [hn] at hi
      exact ⟨up1_n _ _ (by omega), up1_n _ _ (by omega), up1_n _ _ (by omega), up1_n _ _ (by omega), up1_n _ _ (by omega), up1_n _ _ (by omega), up1_n _ _ (by omega), up1_n _ _ (by omega), rfl, rfl⟩
  · have es : nI sz - nI I = nI (sz - I) := pk_sub hIz
    refine L8_set (pr := pr) (sz := sz - I) l8 hp (by omega) ?_ ?_ (fun i => ?_)
    · rw [hb, pk_sub (show I ≤ sz + 256 * pr by omega)]
      congr 1
      omega
    · rw [e34, es]
    · by_cases e : i = q
      · rw [if_pos e, e, e33]
      · rw [if_neg e]
