/-! The other calls, side by side. -/
/-- a call's outcome on both sides -/
def om (ν : NC) (a : AS) (S : Option ((MP × NC) × AS)) (a' : AS) : Prop := ∃ (μ' : MP) (ν' : NC), S = some ((μ', ν'), a') ∧ RR μ' ν' a' ∧ bal ν' a' = bal ν a ∧ ∀ c y : Int, RC c y ν → RC c y ν'
theorem om_q {ν : NC} {a : AS} {S : Option ((MP × NC) × AS)} (h : oq ν a S) : ∃ t : Int32, om ν a S (up2 a 0 0 t) := by
  obtain ⟨μ', t, h1, h2⟩ := h
  exact ⟨t, μ', ν, h1, h2, rfl, fun _ _ h => h⟩
theorem om_x {o : Bool} {cs : List (Nat × Int32)} {r : Nat} {t v : Int32} {μ : MP} {ν : NC} {a : AS} {x : (MP × NC) × Int32} (hR : RR μ ν a) (h0 : r ≠ 0) (h : (r, t) ∈ cs) : om ν a (lwq o cs μ ν (r, x) (up2 a 0 0 t, v) t) (up2 a 0 0 t) := ⟨μ, ν, by unfold lwq; rw [if_neg h0, if_pos h], RR_stop hR, rfl, fun _ _ h => h⟩
theorem om_ok {cs : List (Nat × Int32)} {μ μ' : MP} {ν ν' : NC} {a a' : AS} {v : Int32} (hR : RR μ' ν' a') (hb : bal ν' a' = bal ν a) (hc : ∀ c y : Int, RC c y ν → RC c y ν') : om ν a (lwq true cs μ ν (0, ((μ', ν'), v)) (a', v) (nI 0)) a' := ⟨_, _, lwq_ok, RR_90 hR, hb, hc⟩
theorem rgo_RR {μ : MP} {ν : NC} {a : AS} {s k : Nat} (hR : RR μ ν a) (hs : s < 2) (h : roomS a s k) : ∃ n c : Nat, rgo a s n c ∧ n + k ≤ 8190 ∧ c + k ≤ 65536 := by
  obtain ⟨n, c, h1, h2, h3, h4⟩ := h
  obtain ⟨hh, cc, H, x1, x2, x3, x4, x5, -⟩ := hR.2.2.2.2.2.1 (1 - s) (by omega)
  exact ⟨n, c, ⟨h1, ⟨H, x3, x5⟩, h3⟩, h2, h4⟩
theorem gSends_00 (a : AS) (s : Nat) (kd o1 o2 o3 o4 : Int32) : gSends a s kd o1 o2 o3 o4 0 0 = a 0 0 := gSends_k _ _ _ _ _ _ _ _ _ (by decide) (by decide) (by decide) (by decide) (by decide)
theorem o_connect {w : Nat} {μ : MP} {ν : NC} {a : AS} {x : Int32} (hR : RR μ ν a) (hw : 10 < w) (h : a 0 2 = nI 0 → ∀ z, roomS (gCon0 a z) 0 1 ∧ roomS (gCon0 a z) 1 1) :
    (¬ a 0 2 = nI 0 ∧ om ν a (s_connect w μ ν a x) (up2 a 0 0 (nI 1))) ∨ (a 0 2 = nI 0 ∧ ∃ (z : Bool) (μ' : MP) (ν' : NC), s_connect w μ ν a x = some ((μ', ν'), gConnect a z) ∧ RR μ' ν' (gConnect a z) ∧ bal ν' (gConnect a z) = bal ν (gCon0 a z) ∧ ∀ c y : Int, RC c y ν → RC c y ν') := by
  unfold s_connect
  by_cases c : a 0 2 = nI 0
  · refine Or.inr ⟨c, ?_⟩
    obtain ⟨z, ez⟩ : ∃ z : Bool, nz x = (if z then nI 1 else nI 0) := by
      unfold nz
      by_cases c : x = 0
      · exact ⟨false, by rw [if_pos c]; rfl⟩
      · exact ⟨true, by rw [if_neg c]; rfl⟩
    obtain ⟨r0, r1⟩ := h c z
    obtain ⟨μ', ν', t1, t2, t3, t4, t5⟩ := k_connect (w := w) hR c r0 r1
    obtain ⟨n0, c0, g1, g2, g3, g4⟩ := r0
    obtain ⟨n1, c1, g5, g6, g7, g8⟩ := r1
    obtain ⟨_, _, H0, _, _, x3, _, x5, -⟩ := hR.2.2.2.2.2.1 0 (by decide)
    obtain ⟨_, _, H1, _, _, y3, _, y5, -⟩ := hR.2.2.2.2.2.1 1 (by decide)
    have e41 : gSends (gCon0 a z) 0 (nI 0) (nI 0) (nI 0) (nI 0) (nI 0) 4 1 = nI n1 := (gSends_4o _ _ _ _ _ _ (by decide)).trans g5
    have hr := r_connect (w := w) (a := a) (z := z) (n0 := n0) (n1 := n1) (k0 := c0) (k1 := c1) c ⟨g1, ⟨H1, y3, y5⟩, g3⟩ (by omega) (by omega) ⟨e41, ⟨H0, ?_, x5⟩, ?_⟩ (by omega) (by omega) hw
    · refine ⟨z, μ', ν', ?_, t2, t4, t5⟩
      have h00 : gConnect a z 0 0 = nI 0 := by
        unfold gConnect
        rw [gSends_00, gSends_00]
        rfl
      rw [ez, t1, hr]
      simp only [Option.bind_some]
      rw [r_thrown, h00]
      rfl
    · unfold gSends
      rw [if_neg (show ¬ gCon0 a z 0 2 = 0 from show ¬ nI 1 = (0 : Int32) from n10), gGoes_k _ _ _ _ _ _ (by decide) (by decide) (by decide), gKeep_k _ _ _ _ _ _ _ _ _ (by decide) (by decide)]
      exact x3
    · unfold gSends
      rw [if_neg (show ¬ gCon0 a z 0 2 = 0 from show ¬ nI 1 = (0 : Int32) from n10)]
      unfold gGoes
      rw [up2_n _ _ (by decide), up2_n _ _ (by decide), up2_n _ _ (by omega), gKeep_k _ _ _ _ _ _ _ _ _ (by decide) (by decide)]
      exact g7
  · refine Or.inl ⟨c, ?_⟩
    rw [k_connectX hR c, r_connectX c]
    simp only [Option.bind_some]
    simp only [eq10, cond_false, Option.bind_some, r_thrown, up2_s]
    refine om_x hR ?_ ?_ <;> decide
theorem o_pass {w : Nat} {μ : MP} {ν : NC} {a : AS} {x : Int32} (hR : RR μ ν a) (hw : 8192 < w) (h3 : ∀ t : Nat, 1 ≤ t → t ≤ 50 → x = nI t → ∀ i, i < t → ∀ c, tickR (gTkL i (up2 a 0 0 (nI 0)) c).1 ∧ tickOk (gTkL i (up2 a 0 0 (nI 0)) c).1) :
    om ν a (s_pass w μ ν a x) (up2 a 0 0 (nI 1)) ∨ ∃ t : Nat, 1 ≤ t ∧ t ≤ 50 ∧ x = nI t ∧ om ν a (s_pass w μ ν a x) (gPass a t).1 := by
  unfold s_pass
  by_cases c : x < 1 ∨ 50 < x
  · refine Or.inl ?_
    rw [k_passX c, r_passX c (by omega)]
    simp only [Option.bind_some]
    simp only [eq10, cond_false, Option.bind_some, r_thrown, up2_s]
    refine om_x hR ?_ ?_ <;> decide
  · have c0 : ¬ x < 0 := fun h => c (Or.inl (by rw [Int32.lt_iff_toInt_lt] at h ⊢; have : (1 : Int32).toInt = 1 := rfl; have : (0 : Int32).toInt = 0 := rfl; omega))
    obtain ⟨t, ht, rfl⟩ := nI_of c0
    have t1 : 1 ≤ t := Nat.pos_of_ne_zero (fun e => c (Or.inl (by rw [e]; decide)))
    have t2 : t ≤ 50 := Nat.le_of_not_lt (fun h => c (Or.inr ((nI_ltI (a := 50) (by omega) ht).mpr h)))
    refine Or.inr ⟨t, t1, t2, rfl, ?_⟩
    obtain ⟨μ', ν', k1, k2, k3, k4, k5⟩ := k_pass (w := w) hR t1 t2 (by omega) (fun i hi c => (h3 t t1 t2 rfl i hi c).1)
    have hr := r_pass (w := w) (a := a) t1 t2 hw (fun i hi c => (h3 t t1 t2 rfl i hi c).2)
    have h00 : ∀ j, j ≤ t → ∀ c, (gTkL j (up2 a 0 0 (nI 0)) c).1 0 0 = nI 0 := by
      have hg : ∀ (j : Nat) (b : AS) (c : Nat), b 0 0 = nI 0 → (∀ i, i < j → ∀ c, tickOk (gTkL i b c).1) → (gTkL j b c).1 0 0 = nI 0 := by
        intro j
        induction j with
        | zero => exact fun b c h _ => h
        | succ j ih =>
          intro b c h hh
          have h0 := hh 0 (by omega) c
          refine ih _ _ h0.2.2.1 (fun i hi c' => ?_)
          have h1 := hh (i + 1) (by omega)
          have e : ∀ (i : Nat) (b : AS) (c c' : Nat), (gTkL i b c).1 = (gTkL i b c').1 := by
            intro i
            induction i with
            | zero => exact fun b c c' => rfl
            | succ i ih => exact fun b c c' => ih _ _ _
          have h2 := h1 0
          rw [show (gTkL (i + 1) b 0).1 = (gTkL i (gTk2 b).1 (0 + (gTk1 b).2 + (gTk2 b).2)).1 from rfl, e i _ _ c'] at h2
          exact h2
      exact fun j hj c => hg j _ c (up2_s _ _ _ _) (fun i hi c => (h3 t t1 t2 rfl i (by omega) c).2)
    rw [k1, hr]
    simp only [Option.bind_some]
    rw [r_thrown, show (gPass a t).1 0 0 = nI 0 from h00 t (Nat.le_refl _) 0]
    exact om_ok k2 k4 k5
theorem o_garble {w : Nat} {μ : MP} {ν : NC} {a : AS} {x y : Int32} (hR : RR μ ν a) : oq ν a (s_garble w μ ν a x y) ∨ ∃ s k : Nat, s < 2 ∧ k < tn (a 20 s) ∧ x = nI s ∧ y = nI k ∧ om ν a (s_garble w μ ν a x y) (gGarble a s k) := by
  unfold s_garble
  have hX : (((x ≠ nI 0 ∧ x ≠ nI 1) ∨ ∃ s : Nat, s < 2 ∧ x = nI s ∧ (y < 0 ∨ a 20 s ≤ y)) ∨ ∃ s k : Nat, s < 2 ∧ k < tn (a 20 s) ∧ x = nI s ∧ y = nI k) := by
    rcases sideD x with ⟨s, hs, rfl⟩ | h
    · obtain ⟨_, c, H, x1, x2, x3, x4, x5, x6, -⟩ := hR.2.2.2.2.2.1 s hs
      rcases plD y c (by omega) with ⟨p, hp, rfl⟩ | h
      · exact Or.inr ⟨s, p, hs, by rw [x4, tnI (by omega)]; exact hp, rfl, rfl⟩
      · exact Or.inl (Or.inr ⟨s, hs, rfl, by rw [x4]; exact h⟩)
    · exact Or.inl (Or.inl h)
  rcases hX with h | ⟨s, k, hs, hk, rfl, rfl⟩
  · refine Or.inl ?_
    have hr : f_X9_garble w a x y = some (up2 a 0 0 (nI 1), nI 0) := by
      refine r_garbleX ?_
      rcases h with h | ⟨s, hs, h1, h2⟩
      · exact Or.inl (side_x h)
      · obtain ⟨_, c, H, x1, x2, x3, x4, x5, x6, -⟩ := hR.2.2.2.2.2.1 s hs
        refine Or.inr ⟨s, c, hs, h1, x4, by omega, ?_⟩
        rcases h2 with h2 | h2
        · exact Or.inl h2
        · by_cases c0 : y < 0
          · exact Or.inl c0
          · obtain ⟨j, hj, rfl⟩ := nI_of c0
            rw [x4] at h2
            have := (nI_leI (by omega) hj).mp h2
            by_cases cc : c = 0
            · subst cc
              refine Or.inr ?_
              have h1 : (nI 0 - 1 : Int32) < nI 0 := by decide
              exact Int32.lt_of_lt_of_le h1 ((nI_leI (by decide) hj).mpr (Nat.zero_le _))
            · rw [show (nI c - 1 : Int32) = nI (c - 1) from pk_sub (a := c) (b := 1) (by omega)]
              exact Or.inr ((nI_ltI (by omega) hj).mpr (by omega))
    rw [k_garbleX hR h, hr]
    simp only [Option.bind_some]
    simp only [eq10, cond_false, Option.bind_some, r_thrown, up2_s]
    refine oq_x hR ?_ ?_ <;> decide
  · refine Or.inr ⟨s, k, hs, hk, rfl, rfl, ?_⟩
    obtain ⟨μ', t1, t2⟩ := k_garble (w := w) hR hs hk
    obtain ⟨h', c, H, x1, x2, x3, x4, x5, x6, x7, x8, x9, x10, x11, x12, x13, x14⟩ := hR.2.2.2.2.2.1 s hs
    have hkc : k < c := by rw [x4, tnI (by omega)] at hk; exact hk
    obtain ⟨n, f, g, u1, u2, u3, u4, u5, u6, u7, u8⟩ := x14 k hkc
    have epl : a 21 (pl a s k) = nI (2 * (8192 * n + f) + g) := by
      unfold pl
      rw [x3, tnI (by omega)]
      exact u8
    have hr := r_garble (w := w) (a := a) hs x3 x5 x4 (by omega) hkc epl (by omega)
    rw [t1, hr, epl, tnI (by omega)]
    simp only [Option.bind_some]
    rw [r_thrown, show gGarble a s k 0 0 = nI 0 from by unfold gGarble; rw [up2_n _ _ (by omega), up2_s]]
    exact om_ok t2 rfl (fun _ _ h => h)
theorem o_order {w : Nat} {μ : MP} {ν : NC} {a : AS} {x1 x2 x3 : Int32} (hR : RR μ ν a) (hfo : frO a) (hrm : ¬ a 3 0 = nI 0 → roomS a 0 1) :
    (∃ t, om ν a (s_order w μ ν a x1 x2 x3) (up2 a 0 0 t)) ∨ ∃ k d : Nat, a 0 22 = nI k ∧ k < 40 ∧ d < 2 ∧ nz x1 = nI d ∧ ¬ rgX x2 1 100 ∧ ¬ rgX x3 1 100 ∧ ¬ a 3 0 = nI 0 ∧ om ν a (s_order w μ ν a x1 x2 x3) (gOrder a k (nI d) x2 x3) := by
  obtain ⟨k, e22, hk, -⟩ := ordK hR
  obtain ⟨d, hd, ed⟩ := nzD x1
  have hd01 : nI d = nI 0 ∨ nI d = nI 1 := by rcases (show d = 0 ∨ d = 1 by omega) with rfl | rfl <;> simp
  unfold s_order
  rw [ed]
  by_cases c : orWhy a x2 x3 = 0
  · refine Or.inr ?_
    unfold orWhy at c
    have h2 : ¬ rgX x2 1 100 := fun h => by rw [if_pos h] at c; exact absurd c (by decide)
    have h3 : ¬ rgX x3 1 100 := fun h => by rw [if_neg h2, if_pos h] at c; exact absurd c (by decide)
    have hon : ¬ a 3 0 = nI 0 := fun h => by rw [if_neg h2, if_neg h3, if_pos h] at c; exact absurd c (by decide)
    have h40 : ¬ a 0 22 = nI 40 := fun h => by rw [if_neg h2, if_neg h3, if_neg hon, if_pos h] at c; exact absurd c (by decide)
    have hk40 : k < 40 := by
      rcases Nat.lt_or_ge k 40 with h | h
      · exact h
      · exact absurd (by rw [e22, show k = 40 by omega]) h40
    obtain ⟨μ', ν', t1, t2, t3, t4⟩ := k_order (w := w) (x1 := nI d) hR e22 hk40 hfo hd01 h2 h3 hon (hrm hon)
    obtain ⟨n, c0, g1, g2, g3⟩ := rgo_RR hR (by decide) (hrm hon)
    have hr := r_order (w := w) (x1 := nI d) e22 hk40 hd01 h2 h3 hon g1 (by omega) (by omega)
    refine ⟨k, d, e22, hk40, hd, rfl, h2, h3, hon, ?_⟩
    rw [t1, hr]
    simp only [Option.bind_some]
    rw [r_thrown, show gOrder a k (nI d) x2 x3 0 0 = nI 0 from (gSends_00 _ _ _ _ _ _ _).trans rfl]
    exact om_ok t2 t3 t4
  · have hRR : orWhyR a x2 x3 ≠ 0 := by
      unfold orWhy at c
      unfold orWhyR
      repeat' split
      all_goals first | decide | simp_all
    refine Or.inl ⟨nI (orWhyR a x2 x3), ?_⟩
    rw [k_orderX hR e22 hk c, r_orderX hRR]
    simp only [Option.bind_some]
    simp only [eq10, cond_false, Option.bind_some, r_thrown, up2_s]
    refine om_x hR c ?_
    unfold orWhy at c ⊢
    unfold orWhyR
    by_cases c1 : rgX x2 1 100
    · rw [if_pos c1, if_pos c1]; decide
    · rw [if_neg c1, if_neg c1]
      by_cases c2 : rgX x3 1 100
      · rw [if_pos c2, if_pos c2]; decide
      · rw [if_neg c2, if_neg c2]
        by_cases c3 : a 3 0 = nI 0
        · rw [if_pos c3, if_pos c3]; decide
        · rw [if_neg c3, if_neg c3]
          by_cases c4 : a 0 22 = nI 40
          · rw [if_pos c4, if_pos c4]; decide
          · rw [if_neg c1, if_neg c2, if_neg c3, if_neg c4] at c
            exact absurd rfl c
theorem gReq_00 (a : AS) (o : Nat) (kd x y : Int32) : gReq a o kd x y 0 0 = nI 0 := by
  unfold gReq
  rw [gSends_00, up2_n _ _ (by omega), up2_s]
theorem o_cancel {w : Nat} {μ : MP} {ν : NC} {a : AS} {x : Int32} (hR : RR μ ν a) (hrm : ¬ a 3 0 = nI 0 → roomS a 0 1) :
    (∃ t, om ν a (s_cancel w μ ν a x) (up2 a 0 0 t)) ∨ ∃ o : Nat, o < tn (a 0 22) ∧ x = nI o ∧ ¬ noAsk a o ∧ om ν a (s_cancel w μ ν a x) (gReq a o (nI 6) (nI 0) (nI 0)) := by
  obtain ⟨k, e22, hk, ek⟩ := ordK hR
  unfold s_cancel
  rcases ordD hR x with ⟨o, ho, rfl⟩ | h
  · by_cases c : noAsk a o
    · refine Or.inl ⟨nI 2, ?_⟩
      rw [k_cancelX hR ho c, r_cancelX e22 hk (by omega) c]
      simp only [Option.bind_some]
      simp only [eq10, cond_false, Option.bind_some, r_thrown, up2_s]
      refine om_x hR ?_ ?_ <;> decide
    · have hr0 := hrm (fun h => c (Or.inl h))
      obtain ⟨μ', ν', t1, t2, t3, t4, t5⟩ := k_cancel (w := w) hR ho c hr0
      obtain ⟨n, c0, g1, g2, g3⟩ := rgo_RR hR (by decide) hr0
      refine Or.inr ⟨o, ho, rfl, c, ?_⟩
      rw [t1, r_cancel e22 hk (by omega) c g1 (by omega) (by omega)]
      simp only [Option.bind_some]
      rw [r_thrown, gReq_00]
      exact om_ok t2 t4 t5
  · refine Or.inl ⟨nI 1, ?_⟩
    rw [k_cancelY hR h, r_cancelY e22 hk (by rw [← e22]; exact h)]
    simp only [Option.bind_some]
    simp only [eq10, cond_false, Option.bind_some, r_thrown, up2_s]
    refine om_x hR ?_ ?_ <;> decide
theorem o_replace {w : Nat} {μ : MP} {ν : NC} {a : AS} {x y z : Int32} (hR : RR μ ν a) (hrm : ¬ a 3 0 = nI 0 → roomS a 0 1) :
    (∃ t, om ν a (s_replace w μ ν a x y z) (up2 a 0 0 t)) ∨ ∃ o : Nat, o < tn (a 0 22) ∧ x = nI o ∧ ¬ noAsk a o ∧ ¬ rgX y 1 100 ∧ ¬ rgX z 1 100 ∧ om ν a (s_replace w μ ν a x y z) (gReq a o (nI 7) y z) := by
  obtain ⟨k, e22, hk, ek⟩ := ordK hR
  unfold s_replace
  rcases ordD hR x with ⟨o, ho, rfl⟩ | h
  · by_cases c : rpWhy a o y z = 0
    · unfold rpWhy at c
      have h2 : ¬ rgX y 1 100 := fun h => by rw [if_pos h] at c; exact absurd c (by decide)
      have h3 : ¬ rgX z 1 100 := fun h => by rw [if_neg h2, if_pos h] at c; exact absurd c (by decide)
      have h4 : ¬ noAsk a o := fun h => by rw [if_neg h2, if_neg h3, if_pos h] at c; exact absurd c (by decide)
      have hr0 := hrm (fun h => h4 (Or.inl h))
      obtain ⟨μ', ν', t1, t2, t3, t4, t5⟩ := k_replace (w := w) hR ho h2 h3 h4 hr0
      obtain ⟨n, c0, g1, g2, g3⟩ := rgo_RR hR (by decide) hr0
      refine Or.inr ⟨o, ho, rfl, h4, h2, h3, ?_⟩
      rw [t1, r_replace e22 hk (by omega) h2 h3 h4 g1 (by omega) (by omega)]
      simp only [Option.bind_some]
      rw [r_thrown, gReq_00]
      exact om_ok t2 t4 t5
    · refine Or.inl ⟨nI (rpWhy a o y z), ?_⟩
      rw [k_replaceX hR ho c, r_replaceX e22 hk (by omega) c]
      simp only [Option.bind_some]
      simp only [eq10, cond_false, Option.bind_some, r_thrown, up2_s]
      refine om_x hR c ?_
      unfold rpWhy at c ⊢
      by_cases c1 : rgX y 1 100
      · rw [if_pos c1]; decide
      · rw [if_neg c1] at c ⊢
        by_cases c2 : rgX z 1 100
        · rw [if_pos c2]; decide
        · rw [if_neg c2] at c ⊢
          by_cases c3 : noAsk a o
          · rw [if_pos c3]; decide
          · rw [if_neg c3] at c; exact absurd rfl c
  · refine Or.inl ⟨nI 1, ?_⟩
    rw [k_replaceY hR h, r_replaceY e22 hk (by rw [← e22]; exact h)]
    simp only [Option.bind_some]
    simp only [eq10, cond_false, Option.bind_some, r_thrown, up2_s]
    refine om_x hR ?_ ?_ <;> decide
/-- an execution's number, or none -/
theorem exeD {μ : MP} {ν : NC} {a : AS} (hR : RR μ ν a) (x : Int32) : (∃ e : Nat, e < tn (a 0 35) ∧ x = nI e) ∨ (x < 0 ∨ a 0 35 ≤ x) := by
  obtain ⟨K, e35, hK, eK, -⟩ := exeK hR
  rcases plD x K (by omega) with ⟨p, hp, rfl⟩ | h
  · exact Or.inl ⟨p, by omega, rfl⟩
  · exact Or.inr (by rw [e35]; exact h)
theorem o_bust {w : Nat} {μ : MP} {ν : NC} {a : AS} {x : Int32} (hR : RR μ ν a) (hrm : roomS a 1 1) :
    (∃ t, om ν a (s_bust w μ ν a x) (up2 a 0 0 t)) ∨ ∃ e : Nat, e < tn (a 0 35) ∧ x = nI e ∧ a 43 (100 + e) = nI 0 ∧ om ν a (s_bust w μ ν a x) (gBust a e) := by
  obtain ⟨K, e35, hK, eK, -⟩ := exeK hR
  unfold s_bust
  rcases exeD hR x with ⟨e, he, rfl⟩ | h
  · obtain ⟨p, h1, h2, h3, h4, h5, h6, -⟩ := exeAll hR he
    by_cases c : a 43 (100 + e) = nI 0
    · obtain ⟨μ', ν', t1, t2, t3, t4, t5⟩ := k_bust (w := w) hR he c hrm
      obtain ⟨n, c0, g1, g2, g3⟩ := rgo_RR hR (by decide) hrm
      have hr := r_bust (w := w) e35 hK (by omega) h4 h6 c g1 (by omega) (by omega)
      have et : tn (a 36 e) = p := by rw [h4, tnI (by omega)]
      refine Or.inr ⟨e, he, rfl, c, ?_⟩
      rw [t1, hr, et]
      simp only [Option.bind_some]
      rw [r_thrown, show gBust a e 0 0 = nI 0 from by unfold gBust gRep; rw [gSends_00]; unfold gBust0; rw [up2_n _ _ (by omega), up2_n _ _ (by omega), up2_n _ _ (by omega), up2_s]]
      exact om_ok t2 t4 t5
    · refine Or.inl ⟨nI 2, ?_⟩
      rw [k_bustX hR he c, r_bustX e35 hK (by omega) c]
      simp only [Option.bind_some]
      simp only [eq10, cond_false, Option.bind_some, r_thrown, up2_s]
      refine om_x hR ?_ ?_ <;> decide
  · refine Or.inl ⟨nI 1, ?_⟩
    rw [k_bustY hR h, r_bustY e35 hK (by rw [← e35]; exact h)]
    simp only [Option.bind_some]
    simp only [eq10, cond_false, Option.bind_some, r_thrown, up2_s]
    refine om_x hR ?_ ?_ <;> decide
theorem o_correct {w : Nat} {μ : MP} {ν : NC} {a : AS} {x y : Int32} (hR : RR μ ν a) (hrm : roomS a 1 1) :
    (∃ t, om ν a (s_correct w μ ν a x y) (up2 a 0 0 t)) ∨ ∃ e : Nat, e < tn (a 0 35) ∧ x = nI e ∧ ¬ rgX y 1 100 ∧ a 43 (100 + e) = nI 0 ∧ om ν a (s_correct w μ ν a x y) (gCorr a e y) := by
  obtain ⟨K, e35, hK, eK, -⟩ := exeK hR
  unfold s_correct
  rcases exeD hR x with ⟨e, he, rfl⟩ | h
  · obtain ⟨p, h1, h2, h3, h4, h5, h6, -⟩ := exeAll hR he
    by_cases c : coWhy a e y = 0
    · unfold coWhy at c
      have c1 : ¬ rgX y 1 100 := fun h => by rw [if_pos h] at c; exact absurd c (by decide)
      have c2 : a 43 (100 + e) = nI 0 := by
        by_cases h : a 43 (100 + e) = nI 0
        · exact h
        · rw [if_neg c1, if_neg h] at c; exact absurd c (by decide)
      obtain ⟨μ', ν', t1, t2, t3, t4, t5⟩ := k_correct (w := w) hR he c1 c2 hrm
      obtain ⟨n, c0, g1, g2, g3⟩ := rgo_RR hR (by decide) hrm
      have hr := r_correct (w := w) e35 hK (by omega) h4 h6 c1 c2 g1 (by omega) (by omega)
      refine Or.inr ⟨e, he, rfl, c1, c2, ?_⟩
      rw [t1, hr]
      simp only [Option.bind_some]
      rw [r_thrown, show gCorr a e y 0 0 = nI 0 from by unfold gCorr gRep; rw [gSends_00, up2_n _ _ (by omega), up2_s]]
      exact om_ok t2 t4 t5
    · refine Or.inl ⟨nI (coWhy a e y), ?_⟩
      rw [k_correctX hR he c, r_correctX e35 hK (by omega) c]
      simp only [Option.bind_some]
      simp only [eq10, cond_false, Option.bind_some, r_thrown, up2_s]
      refine om_x hR c ?_
      unfold coWhy at c ⊢
      by_cases c1 : rgX y 1 100
      · rw [if_pos c1]; decide
      · rw [if_neg c1] at c ⊢
        by_cases c2 : a 43 (100 + e) = nI 0
        · rw [if_pos c2] at c; exact absurd rfl c
        · rw [if_neg c2]; decide
  · refine Or.inl ⟨nI 1, ?_⟩
    rw [k_correctY hR h, r_correctY e35 hK (by rw [← e35]; exact h)]
    simp only [Option.bind_some]
    simp only [eq10, cond_false, Option.bind_some, r_thrown, up2_s]
    refine om_x hR ?_ ?_ <;> decide
/-- what the loop of coming wants on both sides, of the states that are on the way -/
theorem o_come {w : Nat} {μ : MP} {ν : NC} {a : AS} {x y : Int32} (hR : RR μ ν a) (hw : 8200 < w)
    (h : ∀ s d : Nat, s < 2 → d ≤ 100 → d ≤ tn (a 20 s) → x = nI s → ∃ (S : Nat) (P1 P2 : AS → Prop), S ≤ 8190 ∧ (∀ a, P1 a → wiOk a s S) ∧ (∀ a, P1 a → ¬ a 18 (8192 * s + tn (a 5 s)) ≤ nI 0 → P1 (gHd1 a s)) ∧
      (∀ a, P2 a → wyOk a s) ∧ (∀ a, P2 a → isIn a s → f_X9_comes w (gPop a s) (nI s) (nI (wyE a s / 2 / 8192)) (nI (wyE a s / 2 % 8192)) = some (gComes (gPop a s) s (wyE a s / 2 / 8192) (wyE a s / 2 % 8192), 0)) ∧ (∀ i, i < d → coOk (gComeL s i (up2 a 0 0 (nI 0))) s S P1 ∧ P2 (gComeL s i (up2 a 0 0 (nI 0)))) ∧ gComeL s d (up2 a 0 0 (nI 0)) 0 0 = nI 0) :
    oq ν a (s_come w μ ν a x y) ∨ ∃ s d : Nat, s < 2 ∧ d ≤ 100 ∧ d ≤ tn (a 20 s) ∧ x = nI s ∧ om ν a (s_come w μ ν a x y) (gComeL s d (up2 a 0 0 (nI 0))) := by
  unfold s_come
  rcases sideD x with ⟨s, hs, rfl⟩ | hx
  · by_cases c : y < 1 ∨ 100 < y
    · refine Or.inl ?_
      have hk : f_X8_come w μ ν (nI s) y = some (2, ((μ, ν), 0)) := by
        unfold f_X8_come
        rw [k_side hs]
        simp only [Option.bind_some]
        rw [eqs]
        simp only [cond_true]
        by_cases c1 : y < 1
        · rw [if_pos c1]; rfl
        · rw [if_neg c1, if_neg (Int32.not_le.mpr (c.resolve_left c1))]; rfl
      have hr : f_X9_come w a (nI s) y = some (up2 a 0 0 (nI 2), 0) := by
        unfold f_X9_come
        rw [r_isSide hs]
        simp only [Option.bind_some]
        rw [if_neg n10, r_in, if_pos c]
        simp only [Option.bind_some]
        rw [if_pos (show nI 0 = (0 : Int32) from rfl)]
        unfold b_X9_come_27
        simp only [yl]
        rw [up2_s, if_neg (show ¬ (2 : Int32) ≤ 0 by decide)]
        rfl
      rw [hk, hr]
      simp only [Option.bind_some]
      simp only [eq10, cond_false, Option.bind_some, r_thrown, up2_s]
      refine oq_x hR ?_ ?_ <;> decide
    · have c0 : ¬ y < 0 := fun h => c (Or.inl (by rw [Int32.lt_iff_toInt_lt] at h ⊢; have : (1 : Int32).toInt = 1 := rfl; have : (0 : Int32).toInt = 0 := rfl; omega))
      obtain ⟨t, ht, rfl⟩ := nI_of c0
      have t1 : 1 ≤ t := Nat.pos_of_ne_zero (fun e => c (Or.inl (by rw [e]; decide)))
      have t2 : t ≤ 100 := Nat.le_of_not_lt (fun h => c (Or.inr ((nI_ltI (a := 100) (by omega) ht).mpr h)))
      obtain ⟨_, k, H, x1, x2, x3, x4, x5, x6, -⟩ := hR.2.2.2.2.2.1 s hs
      have ek : tn (a 20 s) = k := by rw [x4, tnI (by omega)]
      have hd1 : min k t ≤ 100 := by omega
      obtain ⟨S, P1, P2, g1, g2, g3, g4, g5, g6, g7⟩ := h s (min k t) hs hd1 (by omega) rfl
      refine Or.inr ⟨s, min k t, hs, hd1, by omega, rfl, ?_⟩
      obtain ⟨μ', ν', k1, k2, k3, k4, k5⟩ := k_comeL (w := w) hs hw g1 hd1 P1 g2 g3 (min k t) 0 w μ ν (up2 a 0 0 (nI 0)) (RR_stop hR) (by omega) (by omega) (fun i hi => (g6 i hi).1)
      have hr1 := r_comeL (w := w) (c0 := min k t) hs hd1 (by omega) P2 g4 g5 (min k t) 0 w (up2 a 0 0 (nI 0)) (by omega) (by omega) (fun i hi => (g6 i hi).2)
      obtain ⟨z0, z1, z2, -⟩ := id hR.1
      have hk : f_X8_come w μ ν (nI s) (nI t) = some (0, ((μ', ν'), nI (min k t))) := by
        unfold f_X8_come
        rw [k_side hs]
        simp only [Option.bind_some]
        rw [eqs]
        simp only [cond_true]
        rw [if_neg (fun h => c (Or.inl h)), if_pos (Int32.not_lt.mp (fun h => c (Or.inr h)))]
        unfold b_X8_come_25
        rw [ltt z0, k_party hR.1 hs]
        simp only [cond_true, Option.bind_some, yl]
        rw [nzs, Nat.add_sub_cancel, ltt (show s < ν.2 1 by omega), ltt (show s < ν.2 2 by omega), x2]
        simp only [cond_true]
        rw [show (if nI k < nI t then nI k else nI t) = nI (min k t) by
          by_cases c : k < t
          · rw [if_pos ((nI_ltI (by omega) (by omega)).mpr c), show min k t = k by omega]
          · rw [if_neg (fun h => c ((nI_ltI (by omega) (by omega)).mp h)), show min k t = t by omega], show l_X8_come_47 w w μ ν (nI s) (s + 1) (nI (min k t)) (0 : Int32) = _ from k1]
        rfl
      have hr : f_X9_come w a (nI s) (nI t) = some (gComeL s (min k t) (up2 a 0 0 (nI 0)), nI (min k t)) := by
        unfold f_X9_come
        rw [r_isSide hs]
        simp only [Option.bind_some]
        rw [if_neg n10, r_in, if_neg c]
        simp only [Option.bind_some]
        rw [if_neg n10]
        unfold b_X9_come_27
        simp only [yl]
        rw [up2_s, if_pos (show (0 : Int32) ≤ 0 by decide), ixn hs (by decide), nI_clamp (by omega), show up2 a 0 0 (0 : Int32) 20 s = nI k from x4]
        simp only [cond_true]
        unfold b_X9_come_59
        by_cases c : k ≤ t
        · rw [if_pos ((nI_leI (by omega) (by omega)).mpr c)]
          rw [show min k t = k by omega] at hr1 ⊢
          exact hr1
        · rw [if_neg (fun h => c ((nI_leI (by omega) (by omega)).mp h))]
          rw [show min k t = t by omega] at hr1 ⊢
          exact hr1
      rw [hk, hr]
      simp only [Option.bind_some]
      rw [r_thrown, g7]
      exact om_ok k2 k4 k5
  · refine Or.inl ?_
    have hk : f_X8_come w μ ν x y = some (1, ((μ, ν), 0)) := by
      unfold f_X8_come
      rw [k_sideX hx]
      rfl
    have hr : f_X9_come w a x y = some (up2 a 0 0 (nI 1), 0) := by
      unfold f_X9_come
      rw [r_isSideX hx]
      simp only [Option.bind_some]
      rw [if_pos (show nI 0 = (0 : Int32) from rfl)]
      unfold b_X9_come_27
      simp only [yl]
      rw [up2_s, if_neg (show ¬ (1 : Int32) ≤ 0 by decide)]
      rfl
    rw [hk, hr]
    simp only [Option.bind_some]
    simp only [eq10, cond_false, Option.bind_some, r_thrown, up2_s]
    refine oq_x hR ?_ ?_ <;> decide
