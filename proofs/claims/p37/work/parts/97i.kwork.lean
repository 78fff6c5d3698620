/-! The house works a request off: the class against the reference. -/
theorem k_rankRR {w : Nat} {μ μ1 : MP} {ν : NC} {a a1 : AS} {o d : Nat} {x24 x25 x26 : Int32} (hR : RR μ ν a) (ho : o < tn (a 0 22)) (hd : d < 2) (h23 : a 23 o = nI d) (hx : x24 ≠ nI 0) (hr : ∀ o', o' < tn (a 0 22) → o' ≠ o → a 24 (40 + o') ≠ nI 0 → a 31 o' < a 0 32) (hw : 100 < w)
    (m1 : ∀ k, k ≠ 20 → k ≠ 21 → μ1.1 k = μ.1 k) (m2 : ∀ j, j ≠ o → μ1.1 20 j = μ.1 20 j) (m3 : ∀ j, j ≠ 6 → μ1.1 20 o j = μ.1 20 o j) (m4 : μ1.1 20 o 6 = x24) (m5 : ∀ j, j ≠ 2 * o + 1 → μ1.1 21 j = μ.1 21 j) (m6 : μ1.1 21 (2 * o + 1) 0 = x25 ∧ μ1.1 21 (2 * o + 1) 1 = x26 ∧ μ1.1 21 (2 * o + 1) 2 = μ.1 21 (2 * o + 1) 2 ∧ μ1.1 21 (2 * o + 1) 3 = μ.1 21 (2 * o + 1) 3) (m7 : μ1.2 = μ.2)
    (g1 : ∀ k, k ≠ 24 → k ≠ 25 → k ≠ 26 → a1 k = a k) (g2 : a1 24 = up1 (a 24) (40 + o) x24) (g3 : a1 25 = up1 (a 25) (40 + o) x25) (g4 : a1 26 = up1 (a 26) (40 + o) x26) :
    ∃ (μ' : MP) (ν' : NC), f_X8_rankBehindItsPrice w μ1 ν (o + 1) = some ((μ', ν'), 0) ∧ RR μ' ν' (gBehind a1 o) ∧ ν'.2 = ν.2 ∧ ∀ c y : Int, RC c y ν → RC c y ν' := by
  obtain ⟨o1, o2, o3, -⟩ := ordOf hR ho
  obtain ⟨h0, hF, h1, h2, h3, h4, h5, h6, h7, h8, h9⟩ := id hR
  obtain ⟨y1, n, y2, y3, y4, y5, y6, y7, y8⟩ := id h6
  have tn22 : tn (a 0 22) = n := by rw [y2, tnI (by omega)]
  rw [tn22] at ho hr
  have n24 : ∀ o', o' ≠ o → a1 24 (40 + o') = a 24 (40 + o') := fun o' h => by rw [g2, up1_n _ _ (by omega)]
  have n25 : ∀ o', o' ≠ o → a1 25 (40 + o') = a 25 (40 + o') := fun o' h => by rw [g3, up1_n _ _ (by omega)]
  have gg : ∀ k, k ≠ 24 ∧ k ≠ 25 ∧ k ≠ 26 → a1 k = a k := fun k h => g1 k h.1 h.2.1 h.2.2
  have mm : ∀ k, k ≠ 20 ∧ k ≠ 21 → μ1.1 k = μ.1 k := fun k h => m1 k h.1 h.2
  have hb : ∀ o', o' < n → μ1.1 20 o' 1 = a1 23 o' ∧ μ1.1 21 (2 * o' + 1) 0 = a1 25 (40 + o') := fun o' ho' => by
    obtain ⟨t1, t2, t3, t4, t5, t6, t7, t8, t9⟩ := y8 o' ho'
    have := (t9 1 (by decide)).1
    rw [show 40 * 1 + o' = 40 + o' by omega] at this
    rw [gg 23 (by decide)]
    by_cases c : o' = o
    · subst c
      exact ⟨(m3 1 (by decide)).trans t3, by rw [m6.1, g3, up1_s]⟩
    · rw [m2 o' c, m5 _ (by omega), n25 o' c]
      exact ⟨t3, this⟩
  obtain ⟨k, k1, k2, k3, k4, k5, k6, k7, k8⟩ := h9 d hd
  rw [tn22] at k6 k7
  have hah : ∀ o1 o2, o1 ≠ o → o2 ≠ o → aheadR (a 23) (a 25) (a 31) o1 o2 → aheadR (a1 23) (a1 25) (a1 31) o1 o2 := fun o1 o2 q1 q2 h => by
    unfold aheadR at h ⊢
    rw [n25 _ q1, n25 _ q2, gg 23 (by decide), gg 31 (by decide)]
    exact h
  have hW : W9 (μ1.1 4 (3 + d)) (μ1.2 5 (3 + d)) (ν.1 5 (3 + d)) (ν.2 20) n (a1 23) (a1 24) (a1 25) (a1 31) o d k := by
    rw [mm 4 (by decide), m7]
    refine ⟨k1, k2, k3, k4, k5, fun i hi => ?_, fun o' p1 p2 p3 p4 => ?_, fun i j hij hj he => ?_, fun i j hij hj ni nj => ?_⟩
    · obtain ⟨o', p1, p2, p3, p4⟩ := k6 i hi
      refine ⟨o', p1, p2, fun hne => ?_⟩
      rw [n24 o' hne, gg 23 (by decide)]
      exact ⟨p3, p4⟩
    · rw [n24 o' p2] at p3
      rw [gg 23 (by decide)] at p4
      exact k7 o' p1 p3 p4
    · have := k8 i j hij hj
      rw [he] at this
      unfold aheadR at this
      rcases this with h | h
      · exact Int32.lt_irrefl h.2
      · exact h.1 rfl
    · obtain ⟨o1', p1, -⟩ := k6 i (by omega)
      obtain ⟨o2', q1, -⟩ := k6 j hj
      have := k8 i j hij hj
      rw [p1] at ni
      rw [q1] at nj
      rw [p1, q1, Nat.add_sub_cancel, Nat.add_sub_cancel] at this ⊢
      exact hah o1' o2' (by omega) (by omega) this
  obtain ⟨μ', ν', e1, e2, f1, f2, f3, f4, f5, f6, f7, f8⟩ := k_rank (w := w) (r := a 0 32) h0 hd y4 y3 ho hb hW (by rw [g2, up1_s]; exact hx) (by rw [gg 23 (by decide)]; exact h23) (fun o' p1 p2 p3 => by rw [gg 31 (by decide)]; rw [n24 o' p2] at p3; exact hr o' p1 p2 p3) hw
  refine ⟨μ', ν', e1, ?_, f5, f8⟩
  have b0 : ∀ i, i ≠ 32 → gBehind a1 o 0 i = a 0 i := fun i hi => by
    unfold gBehind
    rw [up2_n _ _ (by omega), up2_n _ _ (by omega), gg 0 (by decide)]
  have br : ∀ k, k ≠ 0 ∧ k ≠ 31 → gBehind a1 o k = a1 k := fun k hk => by
    unfold gBehind
    funext i
    rw [up2_n _ _ (by omega), up2_n _ _ (by omega)]
  have b31 : gBehind a1 o 31 = up1 (a1 31) o (a 0 32) := by
    unfold gBehind
    funext i
    rw [gg 0 (by decide), up2_n _ _ (by omega)]
    by_cases c : i = o
    · subst c; rw [up2_s, up1_s]
    · rw [up2_n _ _ (by omega), up1_n _ _ c]
  have bg : ∀ k, k ≠ 0 ∧ k ≠ 31 ∧ k ≠ 24 ∧ k ≠ 25 ∧ k ≠ 26 → gBehind a1 o k = a k := fun k hk => (br k ⟨hk.1, hk.2.1⟩).trans (gg k ⟨hk.2.2.1, hk.2.2.2.1, hk.2.2.2.2⟩)
  have vv : ∀ k, k ≠ 4 ∧ k ≠ 20 ∧ k ≠ 21 → μ'.1 k = μ.1 k := fun k hk => (f1 k hk.1).trans (mm k hk.2)
  have v4 : ∀ j, j ≠ 3 + d → μ'.1 4 j = μ.1 4 j := fun j hj => by rw [f2 j hj, mm 4 (by decide)]
  have vp : ∀ k, k ≠ 5 → μ'.2 k = μ.2 k := fun k hk => by rw [f3 k hk, m7]
  have vp5 : ∀ j, j ≠ 3 + d → μ'.2 5 j = μ.2 5 j := fun j hj => by rw [f4 j hj, m7]
  have ww : ∀ k, k ≠ 5 ∧ k ≠ 98 → ν'.1 k = ν.1 k := fun k hk => f6 k hk.1 hk.2
  refine ⟨?_, ?_, ?_, ?_, ?_, ?_, ?_, ?_, ?_, ?_, ?_⟩
  · unfold R0; rw [f5, ww 30 (by decide), ww 31 (by decide)]; exact h0
  · intro κ hκ k' i' j hk' hi'
    rw [f5]
    by_cases c5 : k' = 5
    · subst c5
      by_cases ci : i' = 3 + d
      · subst ci
        have : κ = 20 := by rw [← hi']; rcases (show d = 0 ∨ d = 1 by omega) with rfl | rfl <;> rfl
        subst this
        obtain ⟨_, _, _, _, _, q, _⟩ := e2
        exact q j
      · rw [vp5 i' ci]; exact hF κ hκ 5 i' j hk' hi'
    · rw [vp k' c5]; exact hF κ hκ k' i' j hk' hi'
  · rw [vv 0 (by decide), b0 2 (by decide), b0 1 (by decide), b0 44 (by decide)]; exact h1
  · rw [vv 1 (by decide), b0 2 (by decide), bg 3 (by decide), bg 5 (by decide), bg 7 (by decide), bg 8 (by decide), bg 9 (by decide), bg 10 (by decide)]; exact h2
  · rw [vv 6 (by decide), vv 8 (by decide), ww 8 (by decide), f5, bg 4 (by decide), bg 11 (by decide), bg 12 (by decide), bg 13 (by decide), bg 14 (by decide), bg 15 (by decide), bg 16 (by decide), bg 17 (by decide), bg 37 (by decide), bg 39 (by decide), bg 40 (by decide)]
    refine ⟨fun s hs => ?_, fun s s' i i' hs hs' hi hi' hp => ?_⟩
    · rw [v4 s (by omega), vp5 s (by omega), f7 s (by omega)]; exact h3.1 s hs
    · rw [vp5 s (by omega), vp5 s' (by omega)] at hp; exact h3.2 s s' i i' hs hs' hi hi' hp
  · rw [vv 2 (by decide), vv 10 (by decide), vv 11 (by decide), vv 12 (by decide), ww 10 (by decide), ww 11 (by decide), ww 12 (by decide), bg 19 (by decide), bg 20 (by decide), bg 21 (by decide)]; exact h4
  · rw [vv 3 (by decide), vv 13 (by decide), ww 13 (by decide), bg 5 (by decide), bg 6 (by decide), bg 18 (by decide)]; exact h5
  · rw [b0 22 (by decide), f5, bg 23 (by decide), bg 27 (by decide), bg 28 (by decide), bg 29 (by decide), bg 30 (by decide), br 24 (by decide), br 25 (by decide), br 26 (by decide), f1 20 (by decide), f1 21 (by decide)]
    refine ⟨by rw [v4 2 (by omega)]; exact y1, n, y2, y3, y4, by rw [f7 2 (by omega)]; exact y5, by rw [f7 2 (by omega)]; exact y6, by rw [vp5 2 (by omega)]; exact y7, fun o' ho' => ?_⟩
    obtain ⟨t1, t2, t3, t4, t5, t6, t7, t8, t9⟩ := y8 o' ho'
    rw [vp5 2 (by omega)]
    have n24' : a1 24 o' = a 24 o' := by rw [g2, up1_n _ _ (by omega)]
    rw [n24']
    by_cases c : o' = o
    · subst c
      rw [m3 0 (by decide), m3 1 (by decide), m3 4 (by decide), m3 5 (by decide), m3 7 (by decide), m4, g2, up1_s]
      refine ⟨t1, t2, t3, t4, t5, t6, rfl, t8, fun z hz => ?_⟩
      obtain ⟨u1, u2, u3, u4⟩ := t9 z hz
      rcases (show z = 0 ∨ z = 1 by omega) with rfl | rfl
      · rw [m5 _ (by omega), g3, g4, up1_n _ _ (by omega), up1_n _ _ (by omega)]
        exact ⟨u1, u2, u3, u4⟩
      · rw [m6.1, m6.2.1, m6.2.2.1, m6.2.2.2, g3, g4, show 40 * 1 + o' = 40 + o' by omega, up1_s, up1_s]
        exact ⟨rfl, rfl, u3, u4⟩
    · rw [m2 o' c, n24 o' c]
      refine ⟨t1, t2, t3, t4, t5, t6, t7, t8, fun z hz => ?_⟩
      obtain ⟨u1, u2, u3, u4⟩ := t9 z hz
      rw [m5 _ (by omega), g3, g4, up1_n _ _ (by omega), up1_n _ _ (by omega)]
      exact ⟨u1, u2, u3, u4⟩
  · rw [b0 22 (by decide), b0 35 (by decide), f5, vv 23 (by decide), vp 23 (by decide), bg 36 (by decide), bg 37 (by decide), bg 38 (by decide), bg 39 (by decide), bg 40 (by decide), bg 41 (by decide), bg 42 (by decide), bg 43 (by decide)]
    exact R7_of h7 (v4 5 (by omega)) (vp5 5 (by omega)) (f7 5 (by omega))
  · rw [vp 24 (by decide), ww 24 (by decide), vv 25 (by decide), bg 33 (by decide), bg 34 (by decide)]; exact h8
  · rw [b0 22 (by decide), f5, br 23 (by decide), br 24 (by decide), br 25 (by decide), b31]
    intro d' hd'
    rw [tn22]
    by_cases c : d' = d
    · subst c
      exact e2
    · obtain ⟨k', j1, j2, j3, j4, j5, j6, j7, j8⟩ := h9 d' hd'
      rw [tn22] at j6 j7
      rw [v4 _ (by omega), vp5 _ (by omega), f7 _ (by omega)]
      have hne : ∀ o', a 23 o' = nI d' → o' ≠ o := fun o' e c' => by
        subst c'
        exact c ((nI_eq (by omega) (by omega)).mp (e.symm.trans h23))
      refine ⟨k', j1, j2, j3, j4, j5, fun i hi => ?_, fun o' p1 p2 p3 => ?_, fun i j hij hj => ?_⟩
      · obtain ⟨o', p1, p2, p3, p4⟩ := j6 i hi
        refine ⟨o', p1, p2, ?_, ?_⟩
        · rw [n24 o' (hne o' p4)]; exact p3
        · rw [gg 23 (by decide)]; exact p4
      · rw [gg 23 (by decide)] at p3
        rw [n24 o' (hne o' p3)] at p2
        exact j7 o' p1 p2 p3
      · obtain ⟨o1', p1, p2, p3, p4⟩ := j6 i (by omega)
        obtain ⟨o2', q1, q2, q3, q4⟩ := j6 j hj
        have := j8 i j hij hj
        rw [p1, q1, Nat.add_sub_cancel, Nat.add_sub_cancel] at this ⊢
        have := hah o1' o2' (hne o1' p4) (hne o2' q4) this
        unfold aheadR at this ⊢
        rw [up1_n _ _ (hne o1' p4), up1_n _ _ (hne o2' q4)]
        exact this
theorem hC8 : ∀ (ν0 : NC) (y : Nat) (c d : Int), RC c d ν0 → RC (c + 8) (d + y) (chg ν0 1 y) := fun ν0 y c d hC => by
  obtain ⟨g1, g2⟩ := hC
  refine ⟨?_, ?_⟩
  · simp (disch := omega) only [kc, chg, up2_n, up2_s] at g1 ⊢
    omega
  · simp (disch := omega) only [ks, chg, up2_n, up2_s] at g2 ⊢
    omega
theorem RR_chg {μ : MP} {ν : NC} {a : AS} (x y : Nat) (h : RR μ ν a) : RR μ (chg ν x y) a := h
theorem RC_le {ν : NC} {c d c' d' : Int} (h : RC c d ν) (h1 : c ≤ c') (h2 : d ≤ d') : RC c' d' ν := by
  obtain ⟨g1, g2⟩ := h
  exact ⟨by omega, by omega⟩
/-- what a side must have room for to send k more -/
def roomS (a : AS) (s k : Nat) : Prop := ∃ n c : Nat, a 4 s = nI n ∧ n + k ≤ 8190 ∧ a 20 (1 - s) = nI c ∧ c + k ≤ 65536
theorem roomS_le {a : AS} {s k k' : Nat} (h : roomS a s k) (hk : k' ≤ k) : roomS a s k' := by
  obtain ⟨n, c, h1, h2, h3, h4⟩ := h
  exact ⟨n, c, h1, by omega, h3, by omega⟩
theorem roomS_of {a b : AS} {s k : Nat} (h : roomS a s k) (h1 : b 4 s = a 4 s) (h2 : b 20 (1 - s) = a 20 (1 - s)) : roomS b s k := by
  obtain ⟨n, c, g1, g2, g3, g4⟩ := h
  exact ⟨n, c, h1.trans g1, g2, h2.trans g3, g4⟩
theorem roomS_send {a : AS} {s k : Nat} {kd o1 o2 o3 o4 : Int32} (h : roomS a s (k + 1)) : roomS (gSends a s kd o1 o2 o3 o4) s k := by
  obtain ⟨n, c, g1, g2, g3, g4⟩ := h
  refine ⟨n + 1, if a 0 2 = 0 then c else c + 1, gSends_4 a s n kd o1 o2 o3 o4 g1 (by omega), by omega, ?_, by split <;> omega⟩
  unfold gSends
  by_cases hu : a 0 2 = 0
  · rw [if_pos hu, if_pos hu, gKeep_k _ _ _ _ _ _ _ _ _ (by decide) (by decide)]
    exact g3
  · rw [if_neg hu, if_neg hu]
    have e20 : gKeep a s kd o1 o2 o3 o4 20 (1 - s) = nI c := by rw [gKeep_k _ _ _ _ _ _ _ _ _ (by decide) (by decide)]; exact g3
    unfold gGoes
    rw [up2_n _ _ (by omega), up2_s, e20, tnI (by omega)]
theorem k_sendL {w : Nat} {μ : MP} {ν : NC} {a : AS} {s nb : Nat} {fb0 : Nat → Int32} {kd o1 o2 o3 o4 : Int32} (hR : RR μ ν a) (hs : s < 2) (hrm : roomS a s 1) (hnb : nb ≤ 806) (hb : bodyR (fun _ => kd) (fun _ => o1) (fun _ => o2) (fun _ => o3) (fun _ => o4) (a 37) (a 39) (a 40) 0 nb fb0) :
    ∃ (μ' : MP) (ν' : NC), f_X8_send_L w μ ν (nI s) kd nb fb0 = some ((μ', ν'), 0) ∧ RR μ' ν' (gSends a s kd o1 o2 o3 o4) ∧ ν'.2 6 = ν.2 6 + 1 ∧ ν'.2 20 = ν.2 20 ∧ ν'.2 23 = ν.2 23 ∧ ∀ c d : Int, RC c d ν → RC (c - 96) (d + nb - 66) ν' := by
  obtain ⟨n, c, g1, g2, g3, g4⟩ := hrm
  exact k_send_L hR hs g1 (by omega) (fun _ => ⟨c, g3, by omega⟩) hnb hb
theorem k_sendN {w : Nat} {μ : MP} {ν : NC} {a : AS} {s k : Nat} (hR : RR μ ν a) (hs : s < 2) (hrm : roomS a s 1) (hk : k < 3) :
    ∃ (μ' : MP) (ν' : NC), f_X8_send_N w μ ν (nI s) (nI k) = some ((μ', ν'), 0) ∧ RR μ' ν' (gSends a s (nI k) (nI 0) (nI 0) (nI 0) (nI 0)) ∧ ν'.2 6 = ν.2 6 + 1 ∧ ν'.2 20 = ν.2 20 ∧ ν'.2 23 = ν.2 23 ∧ ∀ c d : Int, RC c d ν → RC c d ν' := by
  obtain ⟨n, c, g1, g2, g3, g4⟩ := hrm
  obtain ⟨μ', ν', e1, e2, e3, e4, e5, e6⟩ := k_send_N (w := w) (nb := 0) (kd := nI k) (o1 := nI 0) (o2 := nI 0) (o3 := nI 0) (o4 := nI 0) hR hs g1 (by omega) (fun _ => ⟨c, g3, by omega⟩) (by omega) (Or.inl ⟨by rcases (show k = 0 ∨ k = 1 ∨ k = 2 by omega) with rfl | rfl | rfl <;> simp, rfl⟩) rfl
  exact ⟨μ', ν', e1, e2, e3, e4, e5, fun c y hC => RC_le (e6 c y hC) (by omega) (by omega)⟩
/-- a plain report -/
theorem k_plain {w o σ : Nat} {μ : MP} {ν : NC} {a : AS} (hR : RR μ ν a) (ho : o < tn (a 0 22)) (hσ : σ = 0 ∨ σ = 4) (hrm : roomS a 1 1) :
    ∃ (μ' : MP) (ν' : NC), f_X8_reportPlainly w μ ν (nI σ) (o + 1) = some ((μ', ν'), 0) ∧ RR μ' ν' (gRep a (nI σ) o (nI 0) (nI 0)) ∧ ν'.2 6 = ν.2 6 + 1 ∧ ν'.2 20 = ν.2 20 ∧ ν'.2 23 = ν.2 23 ∧ ∀ c d : Int, RC c d ν → RC c d ν' := by
  obtain ⟨o1, o2, o3, o4, -⟩ := ordOf hR ho
  obtain ⟨μ', ν', e1, e2, e3, e4, e5, e6⟩ := k_sendL (w := w) (s := 1) (nb := 4) (fb0 := up1 (up1 (up1 (up1 (fun _ => (0 : Int32)) 0 (150 : Int32)) 1 (nI σ)) 2 (37 : Int32)) 3 (μ.1 20 o 0)) (kd := nI 8) (o1 := nI σ) (o2 := nI o) (o3 := nI 0) (o4 := nI 0) (RR_chg 1 4 hR) (by decide) hrm (by omega) (Or.inr (Or.inr (Or.inr (Or.inr (Or.inr ⟨rfl, rfl, rfl, rfl, o4, Or.inl ⟨by rcases hσ with rfl | rfl <;> simp, rfl⟩⟩)))))
  refine ⟨μ', ν', ?_, e2, e3, e4, e5, fun c y hC => RC_le (e6 _ _ (hC8 _ 4 _ _ hC)) (by omega) (by omega)⟩
  unfold f_X8_reportPlainly b_X8_reportPlainly_7
  rw [nzs, Nat.add_sub_cancel, show (chg ν 1 4).2 = ν.2 from rfl, ltt o1, ltt hR.1.1, q1, q8, e1]
  rfl
/-! a message's body, by its kind -/
theorem body5 {b11 b14 b15 b16 b17 b37 b39 b40 fb : Nat → Int32} {q nb : Nat} (h : bodyR b11 b14 b15 b16 b17 b37 b39 b40 q nb fb) (e : b11 q = nI 5) : nb = 8 ∧ fb 0 = nI 11 ∧ fb 1 = b14 q ∧ fb 2 = nI 54 ∧ fb 3 = b15 q ∧ fb 4 = nI 44 ∧ fb 5 = b16 q ∧ fb 6 = nI 38 ∧ fb 7 = b17 q := by
  rcases h with ⟨h | h | h, -⟩ | ⟨h, -⟩ | ⟨-, h⟩ | ⟨h, -⟩ | ⟨h, -⟩ | ⟨h, -⟩
  all_goals first | exact h | exact absurd (h.symm.trans e) (by decide)
theorem body6 {b11 b14 b15 b16 b17 b37 b39 b40 fb : Nat → Int32} {q nb : Nat} (h : bodyR b11 b14 b15 b16 b17 b37 b39 b40 q nb fb) (e : b11 q = nI 6) : nb = 2 ∧ fb 0 = nI 41 ∧ fb 1 = b14 q := by
  rcases h with ⟨h | h | h, -⟩ | ⟨h, -⟩ | ⟨h, -⟩ | ⟨-, h⟩ | ⟨h, -⟩ | ⟨h, -⟩
  all_goals first | exact h | exact absurd (h.symm.trans e) (by decide)
theorem body7 {b11 b14 b15 b16 b17 b37 b39 b40 fb : Nat → Int32} {q nb : Nat} (h : bodyR b11 b14 b15 b16 b17 b37 b39 b40 q nb fb) (e : b11 q = nI 7) : nb = 6 ∧ fb 0 = nI 41 ∧ fb 1 = b14 q ∧ fb 2 = nI 44 ∧ fb 3 = b15 q ∧ fb 4 = nI 38 ∧ fb 5 = b16 q := by
  rcases h with ⟨h | h | h, -⟩ | ⟨h, -⟩ | ⟨h, -⟩ | ⟨h, -⟩ | ⟨-, h⟩ | ⟨h, -⟩
  all_goals first | exact h | exact absurd (h.symm.trans e) (by decide)
theorem body3 {b11 b14 b15 b16 b17 b37 b39 b40 fb : Nat → Int32} {q nb : Nat} (h : bodyR b11 b14 b15 b16 b17 b37 b39 b40 q nb fb) (e : b11 q = nI 3) : nb = 2 ∧ fb 0 = nI 7 ∧ fb 1 = b14 q := by
  rcases h with ⟨h | h | h, -⟩ | ⟨-, h⟩ | ⟨h, -⟩ | ⟨h, -⟩ | ⟨h, -⟩ | ⟨h, -⟩
  all_goals first | exact h | exact absurd (h.symm.trans e) (by decide)
theorem fOk_of {a b : AS} (h : fOk a) (h4 : b 4 = a 4) (h11 : b 11 = a 11) (h14 : b 14 = a 14) (h16 : b 16 = a 16) (h17 : b 17 = a 17) (h35 : tn (a 0 35) ≤ tn (b 0 35)) : fOk b := by
  unfold fOk at h ⊢
  rw [h4, h11, h14, h16, h17]
  intro s i hs hi k8 k1 f t ef et hft
  exact Nat.le_trans (h s i hs hi k8 k1 f t ef et hft) h35
theorem fOk_send {a : AS} {s n : Nat} {kd o1 o2 o3 o4 : Int32} (h : fOk a) (hs : s < 2) (e4 : a 4 s = nI n) (hn : n + 1 ≤ 8190) (ho : ∀ s', s' < 2 → tn (a 4 s') ≤ 8190) (hk : kd = nI 8 → o1 = nI 1 → ∀ f t : Nat, o3 = nI f → o4 = nI t → f + t ≤ 100 → f + t ≤ tn (a 0 35)) : fOk (gSends a s kd o1 o2 o3 o4) := by
  obtain ⟨r4, r11, r12, r13, r14, r15, r16, r17⟩ := gKeep_rows a s n kd o1 o2 o3 o4 e4 (by omega)
  have gq : ∀ k, k ≠ 21 ∧ k ≠ 20 ∧ k ≠ 9 → gSends a s kd o1 o2 o3 o4 k = gKeep a s kd o1 o2 o3 o4 k := fun k hk => gSends_q a s kd o1 o2 o3 o4 k hk.1 hk.2.1 hk.2.2
  intro s' i hs' hi
  rw [gq 11 (by decide), gq 14 (by decide), gq 16 (by decide), gq 17 (by decide), gSends_k _ _ _ _ _ _ _ _ _ (by decide) (by decide) (by decide) (by decide) (by decide), r11, r14, r16, r17]
  rw [gq 4 (by decide), r4] at hi
  have h8 := ho s' hs'
  by_cases c : s' = s ∧ i = n
  · obtain ⟨rfl, rfl⟩ := c
    rw [up1_s, up1_s, up1_s, up1_s]
    exact hk
  · have hi' : i < tn (a 4 s') := by
      by_cases c1 : s' = s
      · subst c1
        rw [up1_s, tnI (by omega)] at hi
        rw [e4, tnI (by omega)]
        omega
      · rw [up1_n _ _ c1] at hi; exact hi
    have hne : 8192 * s' + (i + 1) ≠ 8192 * s + (n + 1) := by omega
    rw [up1_n _ _ hne, up1_n _ _ hne, up1_n _ _ hne, up1_n _ _ hne]
    exact h s' i hs' hi'
/-- messages made beside those that the sides keep -/
def bal (ν : NC) (a : AS) : Int := (ν.2 6 : Int) - (tn (a 4 0) : Nat) - (tn (a 4 1) : Nat)
theorem bal_of {ν ν' : NC} {a a' : AS} (h6 : ν'.2 6 = ν.2 6) (h : a' 4 = a 4) : bal ν' a' = bal ν a := by
  unfold bal; rw [h6, h]
theorem bal_send {ν ν' : NC} {a : AS} {s : Nat} {kd o1 o2 o3 o4 : Int32} (hs : s < 2) (h : roomS a s 1) (h6 : ν'.2 6 = ν.2 6 + 1) : bal ν' (gSends a s kd o1 o2 o3 o4) = bal ν a := by
  obtain ⟨n, c, e4, hn, -⟩ := h
  have e1 := gSends_4 a s n kd o1 o2 o3 o4 e4 (by omega)
  have e2 : ∀ s', s' ≠ s → gSends a s kd o1 o2 o3 o4 4 s' = a 4 s' := fun s' hs' => by
    rw [gSends_q _ _ _ _ _ _ _ _ (by decide) (by decide) (by decide), (gKeep_rows a s n kd o1 o2 o3 o4 e4 (by omega)).1, up1_n _ _ hs']
  unfold bal
  rw [h6]
  rcases (show s = 0 ∨ s = 1 by omega) with rfl | rfl
  · rw [e1, e2 1 (by decide), e4, tnI (by omega), tnI (by omega)]; omega
  · rw [e1, e2 0 (by decide), e4, tnI (by omega), tnI (by omega)]; omega
theorem bal_trans {x y z : Int} (h : x = y) (h2 : y = z) : x = z := h.trans h2
theorem n8190 {μ : MP} {ν : NC} {a : AS} (hR : RR μ ν a) : ∀ s', s' < 2 → tn (a 4 s') ≤ 8190 := fun s hs => by
  obtain ⟨-, n, x2, x3, -⟩ := hR.2.2.2.2.1.1 s hs
  rw [x2, tnI (by omega)]; exact x3
theorem frE_of {a b : AS} (h : frE a) (h0 : b 0 35 = a 0 35) (h41 : b 41 = a 41) (h42 : b 42 = a 42) (h43 : b 43 = a 43) : frE b := by
  unfold frE at h ⊢
  rw [h0, h41, h42, h43]; exact h
/-- a report, then routing -/
theorem k_route2 {w o d e : Nat} {μ : MP} {ν : NC} {A : AS} {σ x y : Int32} (hR : RR μ ν (gSends A 1 (nI 8) σ (nI o) x y)) (hσ : σ ≠ nI 1) (ho : o < tn (A 0 22)) (hd : d < 2) (h23 : A 23 o = nI d) (h35 : A 0 35 = nI e) (he : e ≤ 100) (hf : fOk A) (hfr : frE A) (h8 : ∀ s', s' < 2 → tn (A 4 s') ≤ 8190) (hrm : roomS A 1 2) (hw : 200 < w) :
    ∃ (μ' : MP) (ν' : NC), f_X8_route w μ ν (o + 1) = some ((μ', ν'), 0) ∧ RR μ' ν' (gRoutes (gRep A σ o x y) o) ∧ ν'.2 20 = ν.2 20 ∧ bal ν' (gRoutes (gRep A σ o x y) o) = bal ν (gSends A 1 (nI 8) σ (nI o) x y) ∧ ∀ c d : Int, RC c d ν → RC c d ν' := by
  have hk : ∀ k i, k ≠ 4 → (k < 11 ∨ 17 < k) → k ≠ 21 → k ≠ 20 → k ≠ 9 → gSends A 1 (nI 8) σ (nI o) x y k i = A k i := fun k i a1 a2 a3 a4 a5 => gSends_k _ _ _ _ _ _ _ _ _ a1 a2 a3 a4 a5
  have hr1 := roomS_send (kd := nI 8) (o1 := σ) (o2 := nI o) (o3 := x) (o4 := y) hrm
  obtain ⟨n, c, g1, g2, g3, g4⟩ := id hr1
  obtain ⟨n0, c0, f1, f2, f3, f4⟩ := id hrm
  have h35' : gSends A 1 (nI 8) σ (nI o) x y 0 35 = nI e := by rw [hk 0 35 (by decide) (by decide) (by decide) (by decide) (by decide)]; exact h35
  obtain ⟨μ', ν', e', e1, e2, e3, e4, e5, e6, e7, e8, e9⟩ := k_route (w := w) hR (by rw [hk 0 22 (by decide) (by decide) (by decide) (by decide) (by decide)]; exact ho) hd (by rw [hk 23 o (by decide) (by decide) (by decide) (by decide) (by decide)]; exact h23) h35' he (fOk_send hf (by decide) f1 (by omega) h8 (fun _ h => absurd h hσ)) (frE_of hfr (hk 0 35 (by decide) (by decide) (by decide) (by decide) (by decide)) (gSends_r _ _ _ _ _ _ _ _ (by decide) (by decide) (by decide) (by decide) (by decide)) (gSends_r _ _ _ _ _ _ _ _ (by decide) (by decide) (by decide) (by decide) (by decide)) (gSends_r _ _ _ _ _ _ _ _ (by decide) (by decide) (by decide) (by decide) (by decide))) hw g1 (by omega) (fun _ => ⟨c, g3, by omega⟩)
  refine ⟨μ', ν', e1, e2, e7, ?_, e9⟩
  have h35n : tn (gSends A 1 (nI 8) σ (nI o) x y 0 35) = e := by rw [h35', tnI (by omega)]
  have gk : gRouteL o 102 (gSends A 1 (nI 8) σ (nI o) x y) 4 = gSends A 1 (nI 8) σ (nI o) x y 4 := funext fun i => gRouteL_k o 102 _ 4 i (by decide) (by decide) (by decide) (by omega)
  unfold gRoutes at e3 ⊢
  unfold gRep at e3 ⊢
  rw [h35n] at e3 ⊢
  by_cases cc : tn (gRouteL o 102 (gSends A 1 (nI 8) σ (nI o) x y) 0 35) ≤ e
  · rw [if_pos cc] at e3 ⊢
    rw [e3, tnI (by omega)] at cc
    rw [if_pos (show e' = e by omega)] at e6
    exact bal_of e6 gk
  · rw [if_neg cc] at e3 ⊢
    rw [gSends_k _ _ _ _ _ _ _ _ _ (by decide) (by decide) (by decide) (by decide) (by decide)] at e3
    rw [e3, tnI (by omega)] at cc
    rw [if_neg (show ¬ e' = e by omega)] at e6
    refine (bal_send (ν := ν) (by decide) (roomS_of hr1 (by rw [gk]) (gRouteL_k o 102 _ 20 _ (by decide) (by decide) (by decide) (by omega))) e6).trans ?_
    exact bal_of rfl gk
/-- what the house needs to work on an order -/
def woR (a : AS) (o d : Nat) : Prop := o < tn (a 0 22) ∧ d < 2 ∧ a 23 o = nI d ∧ (∃ e : Nat, a 0 35 = nI e ∧ e ≤ 100) ∧ fOk a ∧ frE a ∧ (∀ o', o' < tn (a 0 22) → o' ≠ o → a 24 (40 + o') ≠ nI 0 → a 31 o' < a 0 32) ∧ roomS a 1 2 ∧ ¬ lft a (40 + o) < nI 0
theorem k_hTakes {w m q nu o d : Nat} {μ : MP} {ν : NC} {a : AS} (hR : RR μ ν a) (hm : m < ν.2 6) (hq : msgRel (μ.1 6 m) (μ.1 8 m) (ν.1 8 m) (a 11) (a 12) (a 13) (a 14) (a 15) (a 16) (a 17) (a 37) (a 39) (a 40) q nu) (e11 : a 11 q = nI 5) (e14 : a 14 q = nI o) (hV : woR a o d) (hw : 600 < w) :
    ∃ (μ' : MP) (ν' : NC), f_X8_houseTakesOrder w μ ν (m + 1) = some ((μ', ν'), 0) ∧ RR μ' ν' (gWork a q) ∧ ν'.2 20 = ν.2 20 ∧ bal ν' (gWork a q) = bal ν a ∧ ∀ c d : Int, RC c d ν → RC c d ν' := by
  obtain ⟨ho, hd, h23, ⟨e, h35, he⟩, hf, hfr, hr, hrm, hl0⟩ := hV
  obtain ⟨-, -, -, nb, fb, L1, L2, L3, L4⟩ := hq
  obtain ⟨b0, b1, b2, b3, b4, b5, b6, b7, b8⟩ := body5 L4 e11
  subst b0
  obtain ⟨o1, o2, o3, o4, o5, o6, o7, o8, o9, o10, o11⟩ := ordOf hR ho
  have z68 := hR.1.2.2.2.2.2.2.2.2.2.2.2.2.2.2.2.2.1
  have hv0 := k_fld (w := w) (i := 0) (tag := 11) hm z68 L1 (by omega) L3 (by omega) b1 (by decide) (fun i' h => by omega) hw
  rw [show fb (2 * 0 + 1) = nI o from b2.trans e14] at hv0
  obtain ⟨hfo, -, -⟩ := k_findO (w := w) hR ho
  have etn : tn (a 14 q) = o := by rw [e14, tnI (by omega)]
  have hstart : f_X8_houseTakesOrder w μ ν (m + 1) = (if (μ.1 20 o 6) = (0 : Int32) then (yl (uM μ 20 o 6 (1 : Int32)) (fun m7 => (f_X3_valueOf w m7 ν m (44 : Int32)).bind (fun v8 => bif ltB (2 * o + 1) (ν.2 21) then yl (uM m7 21 (2 * o + 1) 0 v8) (fun m10 => (f_X3_valueOf w m10 ν m (38 : Int32)).bind (fun v11 => yl (uM m10 21 (2 * o + 1) 1 v11) (fun m12 => (f_X8_rankBehindItsPrice w m12 ν (o + 1)).bind (fun v13 => b_X8_houseTakesOrder_59 w v13.1.1 v13.1.2 (o + 1))))) else none))) else (some ((μ, ν), (0 : Int32)))) := by
    unfold f_X8_houseTakesOrder
    rw [nzs, Nat.add_sub_cancel, ltt hm, show (11 : Int32) = nI 11 from rfl, hv0]
    simp only [cond_true, Option.bind_some]
    rw [ltt hR.1.1, hfo]
    simp only [cond_true, Option.bind_some]
    rw [if_neg (Nat.succ_ne_zero o), Nat.add_sub_cancel, ltt o1]
    rfl
  rw [hstart, o9]
  unfold gWork
  rw [if_pos e11, etn]
  by_cases c : a 24 (40 + o) = nI 0
  · rw [if_pos (show a 24 (40 + o) = (0 : Int32) from c), if_pos c]
    generalize hm7 : uM μ 20 o 6 (1 : Int32) = m7
    have m78 : ∀ k, k ≠ 20 → m7.1 k = μ.1 k := fun k hk => by rw [← hm7]; funext j; rw [uM_n _ _ _ (by omega)]
    have hv1 := k_fld (w := w) (μ := m7) (i := 2) (tag := 44) hm z68 L1 (by omega) (fun j hj => by rw [m78 8 (by decide)]; exact L3 j hj) (by omega) b5 (by decide) (fun i' h => by
      rcases (show i' = 0 ∨ i' = 1 by omega) with rfl | rfl
      · rw [show fb (2 * 0) = nI 11 from b1]; decide
      · rw [show fb (2 * 1) = nI 54 from b3]; decide) hw
    rw [show fb (2 * 2 + 1) = a 16 q from b6] at hv1
    rw [show (44 : Int32) = nI 44 from rfl, show (38 : Int32) = nI 38 from rfl]
    simp only [yl, hv1, Option.bind_some, ltt o2, cond_true]
    generalize hm10 : uM m7 21 (2 * o + 1) 0 (a 16 q) = m10
    have m108 : ∀ k, k ≠ 20 → k ≠ 21 → m10.1 k = μ.1 k := fun k hk hk2 => by rw [← m78 k hk, ← hm10]; funext j; rw [uM_n _ _ _ (by omega)]
    have hv2 := k_fld (w := w) (μ := m10) (i := 3) (tag := 38) hm z68 L1 (by omega) (fun j hj => by rw [m108 8 (by decide) (by decide)]; exact L3 j hj) (by omega) b7 (by decide) (fun i' h => by
      rcases (show i' = 0 ∨ i' = 1 ∨ i' = 2 by omega) with rfl | rfl | rfl
      · rw [show fb (2 * 0) = nI 11 from b1]; decide
      · rw [show fb (2 * 1) = nI 54 from b3]; decide
      · rw [show fb (2 * 2) = nI 44 from b5]; decide) hw
    rw [show fb (2 * 3 + 1) = a 17 q from b8] at hv2
    simp only [hv2, Option.bind_some]
    generalize hm12 : uM m10 21 (2 * o + 1) 1 (a 17 q) = m12
    generalize hA1 : up2 (up2 (up2 a 24 (40 + o) (nI 1)) 25 (40 + o) (a 16 q)) 26 (40 + o) (a 17 q) = A1
    have g20 : ∀ k, k ≠ 24 → k ≠ 25 → k ≠ 26 → A1 k = a k := fun k k1 k2 k3 => by rw [← hA1]; funext i; simp (disch := omega) only [up2_n]
    obtain ⟨μ2, ν2, t1, t2, t3, t4⟩ := k_rankRR (w := w) (μ1 := m12) (a1 := A1) (x24 := nI 1) (x25 := a 16 q) (x26 := a 17 q) hR ho hd h23 (by decide) hr (by omega)
      (fun k k1 k2 => by rw [← m108 k k1 k2, ← hm12]; funext j; rw [uM_n _ _ _ (by omega)])
      (fun j hj => by rw [← hm12, uM_n _ _ _ (by omega), ← hm10, uM_n _ _ _ (by omega), ← hm7, uM_n _ _ _ (by omega)])
      (fun j hj => by rw [← hm12, uM_n _ _ _ (by omega), ← hm10, uM_n _ _ _ (by omega), ← hm7, uM_s, up1_n _ _ hj])
      (by rw [← hm12, uM_n _ _ _ (by omega), ← hm10, uM_n _ _ _ (by omega), ← hm7, uM_s, up1_s]; rfl)
      (fun j hj => by rw [← hm12, uM_n _ _ _ (by omega), ← hm10, uM_n _ _ _ (by omega), m78 21 (by decide)])
      (by
        rw [← hm12, uM_s, ← hm10, uM_s, m78 21 (by decide)]
        simp (disch := omega) only [up1_n, up1_s]
        exact ⟨trivial, trivial, trivial, trivial⟩)
      (by rw [← hm12, ← hm10, ← hm7]; rfl)
      g20
      (by rw [← hA1]; funext i; simp (disch := omega) only [up2, up1_n, up1_s])
      (by rw [← hA1]; funext i; simp (disch := omega) only [up2, up1_n, up1_s])
      (by rw [← hA1]; funext i; simp (disch := omega) only [up2, up1_n, up1_s])
    rw [t1]
    simp only [Option.bind_some]
    generalize hA2 : gBehind A1 o = A2 at t2
    have gA : ∀ k, k ≠ 24 ∧ k ≠ 25 ∧ k ≠ 26 ∧ k ≠ 0 ∧ k ≠ 31 → A2 k = a k := fun k hk => by
      rw [← hA2, ← g20 k hk.1 hk.2.1 hk.2.2.1]
      unfold gBehind
      funext i
      rw [up2_n _ _ (by omega), up2_n _ _ (by omega)]
    have gA0 : ∀ i, i ≠ 32 → A2 0 i = a 0 i := fun i hi => by
      rw [← hA2, ← g20 0 (by decide) (by decide) (by decide)]
      unfold gBehind
      rw [up2_n _ _ (by omega), up2_n _ _ (by omega)]
    have hrm2 : roomS A2 1 2 := roomS_of hrm (by rw [gA 4 (by decide)]) (by rw [gA 20 (by decide)])
    have h8 : ∀ s', s' < 2 → tn (A2 4 s') ≤ 8190 := n8190 t2
    have ho2 : o < tn (A2 0 22) := by rw [gA0 22 (by decide)]; exact ho
    obtain ⟨μ3, ν3, u1, u2, u3, u4, u5, u6⟩ := k_plain (w := w) (σ := 0) t2 ho2 (Or.inl rfl) (roomS_le hrm2 (by decide))
    obtain ⟨μ4, ν4, s1, s2, s3, s4, s5⟩ := k_route2 (w := w) (d := d) (e := e) u2 (by decide) ho2 hd (by rw [gA 23 (by decide)]; exact h23) (by rw [gA0 35 (by decide)]; exact h35) he (fOk_of hf (gA 4 (by decide)) (gA 11 (by decide)) (gA 14 (by decide)) (gA 16 (by decide)) (gA 17 (by decide)) (by rw [gA0 35 (by decide)]; exact Nat.le_refl _)) (frE_of hfr (gA0 35 (by decide)) (gA 41 (by decide)) (gA 42 (by decide)) (gA 43 (by decide))) h8 hrm2 (by omega)
    refine ⟨μ4, ν4, ?_, s2, ?_, ?_, fun c y hC => s5 _ _ (u6 _ _ (t4 _ _ hC))⟩
    · unfold b_X8_houseTakesOrder_59
      rw [t3, ltt hR.1.1, decide_eq_true (show o + 1 ≤ ν.2 20 by omega), q0, u1]
      simp only [cond_true, Option.bind_some]
      unfold b_X8_houseTakesOrder_65
      rw [ltt u2.1.1, s1]
      rfl
    · rw [s3, u4, t3]
    · refine s4.trans ((bal_send (ν := ν2) (by decide) (roomS_le hrm2 (by decide)) u3).trans ?_)
      exact bal_of (by rw [t3]) (gA 4 (by decide))
  · rw [if_neg (show ¬ a 24 (40 + o) = (0 : Int32) from c), if_neg c]
    exact ⟨μ, ν, rfl, hR, rfl, rfl, fun _ _ h => h⟩
theorem RR_b28 {μ : MP} {ν : NC} {a : AS} {o : Nat} {v : Int32} (hR : RR μ ν a) (ho : o < tn (a 0 22)) : RR (uM μ 21 (2 * o + 1) 3 v) ν (up2 a 28 (40 + o) v) := by
  obtain ⟨h0, hF, h1, h2, h3, h4, h5, h6, h7, h8, h9⟩ := hR
  obtain ⟨y1, n, y2, y3, y4, y5, y6, y7, y8⟩ := h6
  refine ⟨h0, hF, h1, h2, h3, h4, h5, ⟨y1, n, y2, y3, y4, y5, y6, y7, fun o' ho' => ?_⟩, h7, h8, h9⟩
  obtain ⟨t1, t2, t3, t4, t5, t6, t7, t8, t9⟩ := y8 o' ho'
  refine ⟨t1, t2, t3, t4, t5, t6, t7, t8, fun z hz => ?_⟩
  obtain ⟨u1, u2, u3, u4⟩ := t9 z hz
  by_cases c : 2 * o' + z = 2 * o + 1
  · have c1 : z = 1 := by omega
    have c2 : o' = o := by omega
    subst c1; subst c2
    rw [uM_s, show 40 * 1 + o' = 40 + o' by omega] at *
    rw [up1_n _ _ (by decide), up1_n _ _ (by decide), up1_n _ _ (by decide), up1_s]
    exact ⟨u1, u2, u3, (up2_s _ _ _ _).symm⟩
  · rw [uM_n _ _ _ (by omega)]
    refine ⟨u1, u2, u3, u4.trans ?_⟩
    exact (up2_n _ _ (by omega)).symm
theorem k_hCancels {w q o d : Nat} {μ : MP} {ν : NC} {a : AS} (hR : RR μ ν a) (e11 : a 11 q = nI 6) (e14 : a 14 q = nI o) (hV : woR a o d) :
    ∃ (μ' : MP) (ν' : NC), f_X8_houseCancels w μ ν (o + 1) = some ((μ', ν'), 0) ∧ RR μ' ν' (gWork a q) ∧ ν'.2 20 = ν.2 20 ∧ bal ν' (gWork a q) = bal ν a ∧ ∀ c d : Int, RC c d ν → RC c d ν' := by
  obtain ⟨ho, hd, h23, -, hf, hfr, hr, hrm, hl0⟩ := hV
  obtain ⟨o1, o2, o3, o4, o5, o6, o7, o8, o9, o10, o11⟩ := ordOf hR ho
  have etn : tn (a 14 q) = o := by rw [e14, tnI (by omega)]
  have hrest := k_rest (w := w) (z := 1) hR ho (by decide)
  rw [show 40 * 1 + o = 40 + o by omega] at hrest
  have u28 := (o11 1 (by decide)).2.2.2
  rw [show 40 * 1 + o = 40 + o by omega] at u28
  have hno7 : ¬ a 11 q = nI 7 := by rw [e11]; decide
  have hplain : ∃ (μ' : MP) (ν' : NC), b_X8_houseCancels_24 w μ ν (o + 1) = some ((μ', ν'), 0) ∧ RR μ' ν' (gRep a (nI 4) o (nI 0) (nI 0)) ∧ ν'.2 20 = ν.2 20 ∧ bal ν' (gRep a (nI 4) o (nI 0) (nI 0)) = bal ν a ∧ ∀ c d : Int, RC c d ν → RC c d ν' := by
    obtain ⟨μ3, ν3, u1, u2, u3, u4, u5, u6⟩ := k_plain (w := w) (σ := 4) hR ho (Or.inr rfl) (roomS_le hrm (by decide))
    refine ⟨μ3, ν3, ?_, u2, u4, bal_send (by decide) (roomS_le hrm (by decide)) u3, u6⟩
    unfold b_X8_houseCancels_24
    rw [ltt hR.1.1, show (4 : Int32) = nI 4 from rfl, u1]
    rfl
  unfold gWork
  rw [if_neg (show ¬ a 11 q = nI 5 by rw [e11]; decide), etn]
  unfold f_X8_houseCancels
  rw [if_neg (Nat.succ_ne_zero o), Nat.add_sub_cancel, ltt o1, ltt o2, hrest, o9]
  simp only [cond_true, Option.bind_some]
  by_cases c1 : a 24 (40 + o) = nI 0
  · rw [if_pos (show a 24 (40 + o) = (0 : Int32) from c1), if_pos (Or.inl c1)]
    exact hplain
  · rw [if_neg (show ¬ a 24 (40 + o) = (0 : Int32) from c1)]
    by_cases c2 : lft a (40 + o) = nI 0
    · rw [if_pos (Or.inr (Or.inl c2)), if_neg (show ¬ (0 : Int32) < lft a (40 + o) by rw [c2]; decide)]
      exact hplain
    · have c3 : (0 : Int32) < lft a (40 + o) := Int32.lt_of_le_of_ne (Int32.not_lt.mp hl0) (fun h => c2 h.symm)
      rw [if_neg (show ¬ (a 24 (40 + o) = nI 0 ∨ lft a (40 + o) = nI 0 ∨ (a 11 q = nI 7 ∧ ¬ a 27 (40 + o) + a 28 (40 + o) < a 16 q)) from fun h => by
        rcases h with h | h | h
        · exact c1 h
        · exact c2 h
        · exact hno7 h.1), if_pos e11, if_pos c3, u28]
      have hR' := RR_b28 (v := a 28 (40 + o) + lft a (40 + o)) hR ho
      have hrm' : roomS (up2 a 28 (40 + o) (a 28 (40 + o) + lft a (40 + o))) 1 1 := roomS_of (roomS_le hrm (by decide)) (up2_n _ _ (by omega)) (up2_n _ _ (by omega))
      have r4 : up2 a 28 (40 + o) (a 28 (40 + o) + lft a (40 + o)) 4 = a 4 := funext fun i => up2_n _ _ (by omega)
      obtain ⟨μ3, ν3, u1, u2, u3, u4, u5, u6⟩ := k_sendL (w := w) (s := 1) (nb := 6) (fb0 := up1 (up1 (up1 (up1 (up1 (up1 (fun _ => (0 : Int32)) 0 (150 : Int32)) 1 (2 : Int32)) 2 (37 : Int32)) 3 ((uM μ 21 (2 * o + 1) 3 (a 28 (40 + o) + lft a (40 + o))).1 20 o 0)) 4 (32 : Int32)) 5 (lft a (40 + o))) (kd := nI 8) (o1 := nI 2) (o2 := nI o) (o3 := lft a (40 + o)) (o4 := nI 0) (RR_chg 1 6 hR') (by decide) hrm' (by omega) (Or.inr (Or.inr (Or.inr (Or.inr (Or.inr ⟨rfl, rfl, rfl, rfl, by
        show (uM μ 21 (2 * o + 1) 3 (a 28 (40 + o) + lft a (40 + o))).1 20 o 0 = nI o
        rw [uM_n _ _ _ (by omega)]; exact o4, Or.inr (Or.inr (Or.inl ⟨rfl, rfl, rfl, rfl⟩))⟩)))))
      refine ⟨μ3, ν3, ?_, u2, u4, ?_, fun c y hC => RC_le (u6 _ _ (hC8 _ 6 _ _ hC)) (by omega) (by omega)⟩
      · simp only [yl]
        unfold b_X8_houseCancels_52
        rw [nzs, Nat.add_sub_cancel, show (chg ν 1 6).2 = ν.2 from rfl, ltt o1, ltt hR.1.1, q1, q8, u1]
        rfl
      · exact (bal_send (ν := ν) (by decide) hrm' u3).trans (bal_of rfl r4)
theorem k_hReplaces {w m q nu o d : Nat} {μ : MP} {ν : NC} {a : AS} (hR : RR μ ν a) (hm : m < ν.2 6) (hq : msgRel (μ.1 6 m) (μ.1 8 m) (ν.1 8 m) (a 11) (a 12) (a 13) (a 14) (a 15) (a 16) (a 17) (a 37) (a 39) (a 40) q nu) (e11 : a 11 q = nI 7) (e14 : a 14 q = nI o) (hV : woR a o d) (hw : 600 < w) :
    ∃ (μ' : MP) (ν' : NC), f_X8_houseReplaces w μ ν (o + 1) (m + 1) = some ((μ', ν'), 0) ∧ RR μ' ν' (gWork a q) ∧ ν'.2 20 = ν.2 20 ∧ bal ν' (gWork a q) = bal ν a ∧ ∀ c d : Int, RC c d ν → RC c d ν' := by
  obtain ⟨ho, hd, h23, ⟨e, h35, he⟩, hf, hfr, hr, hrm, hl0⟩ := hV
  obtain ⟨-, -, -, nb, fb, L1, L2, L3, L4⟩ := hq
  obtain ⟨b0, b1, b2, b3, b4, b5, b6⟩ := body7 L4 e11
  subst b0
  obtain ⟨o1, o2, o3, o4, o5, o6, o7, o8, o9, o10, o11⟩ := ordOf hR ho
  have z68 := hR.1.2.2.2.2.2.2.2.2.2.2.2.2.2.2.2.2.1
  have etn : tn (a 14 q) = o := by rw [e14, tnI (by omega)]
  have hrest := k_rest (w := w) (z := 1) hR ho (by decide)
  rw [show 40 * 1 + o = 40 + o by omega] at hrest
  have u27 := (o11 1 (by decide)).2.2.1
  have u28 := (o11 1 (by decide)).2.2.2
  rw [show 40 * 1 + o = 40 + o by omega] at u27 u28
  have hv1 := k_fld (w := w) (i := 1) (tag := 44) hm z68 L1 (by omega) L3 (by omega) b3 (by decide) (fun i' h => by
    obtain rfl : i' = 0 := by omega
    rw [show fb (2 * 0) = nI 41 from b1]; decide) hw
  have hv2 := k_fld (w := w) (i := 2) (tag := 38) hm z68 L1 (by omega) L3 (by omega) b5 (by decide) (fun i' h => by
    rcases (show i' = 0 ∨ i' = 1 by omega) with rfl | rfl
    · rw [show fb (2 * 0) = nI 41 from b1]; decide
    · rw [show fb (2 * 1) = nI 44 from b3]; decide) hw
  rw [show fb (2 * 1 + 1) = a 15 q from b4] at hv1
  rw [show fb (2 * 2 + 1) = a 16 q from b6] at hv2
  have hplain : ∃ (μ' : MP) (ν' : NC), b_X8_houseReplaces_54 w μ ν (o + 1) = some ((μ', ν'), 0) ∧ RR μ' ν' (gRep a (nI 4) o (nI 0) (nI 0)) ∧ ν'.2 20 = ν.2 20 ∧ bal ν' (gRep a (nI 4) o (nI 0) (nI 0)) = bal ν a ∧ ∀ c d : Int, RC c d ν → RC c d ν' := by
    obtain ⟨μ3, ν3, u1, u2, u3, u4, u5, u6⟩ := k_plain (w := w) (σ := 4) hR ho (Or.inr rfl) (roomS_le hrm (by decide))
    refine ⟨μ3, ν3, ?_, u2, u4, bal_send (by decide) (roomS_le hrm (by decide)) u3, u6⟩
    unfold b_X8_houseReplaces_54
    rw [ltt hR.1.1, show (4 : Int32) = nI 4 from rfl, u1]
    rfl
  unfold gWork
  rw [if_neg (show ¬ a 11 q = nI 5 by rw [e11]; decide), etn]
  unfold f_X8_houseReplaces
  rw [if_neg (Nat.succ_ne_zero o), nzs, Nat.add_sub_cancel, Nat.add_sub_cancel, ltt o1, ltt hm, show (44 : Int32) = nI 44 from rfl, show (38 : Int32) = nI 38 from rfl, hv1]
  simp only [cond_true, Option.bind_some]
  rw [hv2]
  simp only [cond_true, Option.bind_some]
  rw [o9]
  by_cases c1 : a 24 (40 + o) = nI 0
  · rw [if_pos (show a 24 (40 + o) = (0 : Int32) from c1), if_pos (Or.inl c1)]
    exact hplain
  · rw [if_neg (show ¬ a 24 (40 + o) = (0 : Int32) from c1), ltt o2, hrest]
    simp only [cond_true, Option.bind_some]
    rw [u27, u28]
    by_cases c2 : lft a (40 + o) = nI 0
    · rw [if_pos (Or.inr (Or.inl c2)), if_pos (show lft a (40 + o) ≤ (0 : Int32) by rw [c2]; decide)]
      exact hplain
    · have c3 : ¬ lft a (40 + o) ≤ (0 : Int32) := fun h => c2 (Int32.le_antisymm h (Int32.not_lt.mp hl0))
      rw [if_neg c3]
      by_cases c4 : a 27 (40 + o) + a 28 (40 + o) < a 16 q
      · rw [if_pos c4, if_neg (show ¬ (a 24 (40 + o) = nI 0 ∨ lft a (40 + o) = nI 0 ∨ (a 11 q = nI 7 ∧ ¬ a 27 (40 + o) + a 28 (40 + o) < a 16 q)) from fun h => by
          rcases h with h | h | h
          · exact c1 h
          · exact c2 h
          · exact h.2 c4), if_neg (show ¬ a 11 q = nI 6 by rw [e11]; decide)]
        simp only [yl]
        generalize hm10 : uM μ 21 (2 * o + 1) 0 (a 15 q) = m10
        have m108 : ∀ k, k ≠ 21 → m10.1 k = μ.1 k := fun k hk2 => by rw [← hm10]; funext j; rw [uM_n _ _ _ (by omega)]
        generalize hm12 : uM m10 21 (2 * o + 1) 1 (a 16 q) = m12
        generalize hA1 : up2 (up2 a 25 (40 + o) (a 15 q)) 26 (40 + o) (a 16 q) = A1
        have g20 : ∀ k, k ≠ 24 → k ≠ 25 → k ≠ 26 → A1 k = a k := fun k k1 k2 k3 => by rw [← hA1]; funext i; simp (disch := omega) only [up2_n]
        obtain ⟨μ2, ν2, t1, t2, t3, t4⟩ := k_rankRR (w := w) (μ1 := m12) (a1 := A1) (x24 := a 24 (40 + o)) (x25 := a 15 q) (x26 := a 16 q) hR ho hd h23 c1 hr (by omega)
          (fun k k1 k2 => by rw [← m108 k k2, ← hm12]; funext j; rw [uM_n _ _ _ (by omega)])
          (fun j hj => by rw [← hm12, uM_n _ _ _ (by omega), m108 20 (by decide)])
          (fun j hj => by rw [← hm12, uM_n _ _ _ (by omega), m108 20 (by decide)])
          (by rw [← hm12, uM_n _ _ _ (by omega), m108 20 (by decide)]; exact o9)
          (fun j hj => by rw [← hm12, uM_n _ _ _ (by omega), ← hm10, uM_n _ _ _ (by omega)])
          (by
            rw [← hm12, uM_s, ← hm10, uM_s]
            simp (disch := omega) only [up1_n, up1_s]
            exact ⟨trivial, trivial, trivial, trivial⟩)
          (by rw [← hm12, ← hm10]; rfl)
          g20
          (by rw [up1_self, ← hA1]; funext i; simp (disch := omega) only [up2_n])
          (by rw [← hA1]; funext i; simp (disch := omega) only [up2, up1_n, up1_s])
          (by rw [← hA1]; funext i; simp (disch := omega) only [up2, up1_n, up1_s])
        rw [t1]
        simp only [Option.bind_some]
        generalize hA2 : gBehind A1 o = A2 at t2
        have gA : ∀ k, k ≠ 24 ∧ k ≠ 25 ∧ k ≠ 26 ∧ k ≠ 0 ∧ k ≠ 31 → A2 k = a k := fun k hk => by
          rw [← hA2, ← g20 k hk.1 hk.2.1 hk.2.2.1]
          unfold gBehind
          funext i
          rw [up2_n _ _ (by omega), up2_n _ _ (by omega)]
        have gA0 : ∀ i, i ≠ 32 → A2 0 i = a 0 i := fun i hi => by
          rw [← hA2, ← g20 0 (by decide) (by decide) (by decide)]
          unfold gBehind
          rw [up2_n _ _ (by omega), up2_n _ _ (by omega)]
        have hrm2 : roomS A2 1 2 := roomS_of hrm (by rw [gA 4 (by decide)]) (by rw [gA 20 (by decide)])
        have h8 : ∀ s', s' < 2 → tn (A2 4 s') ≤ 8190 := n8190 t2
        have ho2 : o < tn (A2 0 22) := by rw [gA0 22 (by decide)]; exact ho
        obtain ⟨-, -, -, o4', -⟩ := ordOf t2 ho2
        obtain ⟨μ3, ν3, u1, u2, u3, u4, u5, u6⟩ := k_sendL (w := w) (s := 1) (nb := 8) (fb0 := up1 (up1 (up1 (up1 (up1 (up1 (up1 (up1 (fun _ => (0 : Int32)) 0 (150 : Int32)) 1 (3 : Int32)) 2 (37 : Int32)) 3 (μ2.1 20 o 0)) 4 (44 : Int32)) 5 (a 15 q)) 6 (38 : Int32)) 7 (a 16 q)) (kd := nI 8) (o1 := nI 3) (o2 := nI o) (o3 := a 15 q) (o4 := a 16 q) (RR_chg 1 8 t2) (by decide) (roomS_le hrm2 (by decide)) (by omega) (Or.inr (Or.inr (Or.inr (Or.inr (Or.inr ⟨rfl, rfl, rfl, rfl, o4', Or.inr (Or.inr (Or.inr (Or.inl ⟨rfl, rfl, rfl, rfl, rfl, rfl⟩)))⟩)))))
        obtain ⟨μ4, ν4, s1, s2, s3, s4, s5⟩ := k_route2 (w := w) (d := d) (e := e) u2 (by decide) ho2 hd (by rw [gA 23 (by decide)]; exact h23) (by rw [gA0 35 (by decide)]; exact h35) he (fOk_of hf (gA 4 (by decide)) (gA 11 (by decide)) (gA 14 (by decide)) (gA 16 (by decide)) (gA 17 (by decide)) (by rw [gA0 35 (by decide)]; exact Nat.le_refl _)) (frE_of hfr (gA0 35 (by decide)) (gA 41 (by decide)) (gA 42 (by decide)) (gA 43 (by decide))) h8 hrm2 (by omega)
        refine ⟨μ4, ν4, ?_, s2, ?_, ?_, fun c y hC => s5 _ _ (RC_le (u6 _ _ (hC8 _ 8 _ _ (t4 _ _ hC))) (by omega) (by omega))⟩
        · rw [ltt hR.1.1]
          simp only [cond_true]
          unfold b_X8_houseReplaces_78 b_X8_houseReplaces_86
          rw [nzs, Nat.add_sub_cancel, show (chg ν2 1 8).2 = ν2.2 from rfl, t3, ltt o1, ltt hR.1.1, q1, q8, u1]
          simp only [cond_true, Option.bind_some]
          unfold b_X8_houseReplaces_133
          rw [ltt u2.1.1, s1]
          rfl
        · rw [s3, u4]; exact congrFun t3 20
        · refine s4.trans ((bal_send (ν := ν2) (by decide) (roomS_le hrm2 (by decide)) u3).trans ?_)
          exact bal_of (by rw [t3]) (gA 4 (by decide))
      · rw [if_neg c4, if_pos (Or.inr (Or.inr ⟨e11, c4⟩))]
        exact hplain
