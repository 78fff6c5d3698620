/-! The house works a request off: the class against the reference. -/
theorem k_rankRR {w : Nat} {μ μ1 : MP} {ν : NC} {a a1 : AS} {o d : Nat} {x24 x25 x26 : Int32} (hR : RR μ ν a) (ho : o < tn (a 0 22)) (hd : d < 2) (h23 : a 23 o = nI d) (hx : x24 ≠ nI 0) (hr : ∀ o', o' < tn (a 0 22) → o' ≠ o → a 24 (40 + o') ≠ nI 0 → a 31 o' < a 0 32) (hw : 100 < w)
    (m1 : ∀ k, k ≠ 20 → k ≠ 21 → μ1.1 k = μ.1 k) (m2 : ∀ j, j ≠ o → μ1.1 20 j = μ.1 20 j) (m3 : ∀ j, j ≠ 6 → μ1.1 20 o j = μ.1 20 o j) (m4 : μ1.1 20 o 6 = x24) (m5 : ∀ j, j ≠ 2 * o + 1 → μ1.1 21 j = μ.1 21 j) (m6 : μ1.1 21 (2 * o + 1) 0 = x25 ∧ μ1.1 21 (2 * o + 1) 1 = x26 ∧ μ1.1 21 (2 * o + 1) 2 = μ.1 21 (2 * o + 1) 2 ∧ μ1.1 21 (2 * o + 1) 3 = μ.1 21 (2 * o + 1) 3) (m7 : μ1.2 = μ.2)
    (g1 : ∀ k, k ≠ 24 → k ≠ 25 → k ≠ 26 → a1 k = a k) (g2 : a1 24 = up1 (a 24) (40 + o) x24) (g3 : a1 25 = up1 (a 25) (40 + o) x25) (g4 : a1 26 = up1 (a 26) (40 + o) x26) :
    ∃ (μ' : MP) (ν' : NC), f_X8_rankBehindItsPrice w μ1 ν (o + 1) = some ((μ', ν'), 0) ∧ RR μ' ν' (gBehind a1 o) ∧ ν'.2 = ν.2 ∧ ∀ c y : Int, RC c y ν → RC c y ν' := by
  obtain ⟨o1, o2, o3, -⟩ := ordOf hR ho
  obtain ⟨h0, hF, h1, h2, h3, h4, h5, h6, h7, h8, h9⟩ := id hR
  obtain ⟨y1, n, y2, y3, y4, y5, y6, y7, y8⟩ := id h6
  have tn22 : tn (a 0 22) = n := by rw [y2, tnI (by omega)]
  rw [tn22] at ho hr
  have n24 : ∀ o', o' ≠ o → a1 24 (40 + o') = a 24 (40 + o') := fun o' h => by rw [g2, up1_n _ _ (by omega)]
  have n25 : ∀ o', o' ≠ o → a1 25 (40 + o') = a 25 (40 + o') := fun o' h => by rw [g3, up1_n _ _ (by omega)]
  have gg : ∀ k, k ≠ 24 ∧ k ≠ 25 ∧ k ≠ 26 → a1 k = a k := fun k h => g1 k h.1 h.2.1 h.2.2
  have mm : ∀ k, k ≠ 20 ∧ k ≠ 21 → μ1.1 k = μ.1 k := fun k h => m1 k h.1 h.2
  have hb : ∀ o', o' < n → μ1.1 20 o' 1 = a1 23 o' ∧ μ1.1 21 (2 * o' + 1) 0 = a1 25 (40 + o') := fun o' ho' => by
    obtain ⟨t1, t2, t3, t4, t5, t6, t7, t8, t9⟩ := y8 o' ho'
    have := (t9 1 (by decide)).1
    rw [show 40 * 1 + o' = 40 + o' by omega] at this
    rw [gg 23 (by decide)]
    by_cases c : o' = o
    · subst c
      exact ⟨(m3 1 (by decide)).trans t3, by rw [m6.1, g3, up1_s]⟩
    · rw [m2 o' c, m5 _ (by omega), n25 o' c]
      exact ⟨t3, this⟩
  obtain ⟨k, k1, k2, k3, k4, k5, k6, k7, k8⟩ := h9 d hd
  rw [tn22] at k6 k7
  have hah : ∀ o1 o2, o1 ≠ o → o2 ≠ o → aheadR (a 23) (a 25) (a 31) o1 o2 → aheadR (a1 23) (a1 25) (a1 31) o1 o2 := fun o1 o2 q1 q2 h => by
    unfold aheadR at h ⊢
    rw [n25 _ q1, n25 _ q2, gg 23 (by decide), gg 31 (by decide)]
    exact h
  have hW : W9 (μ1.1 4 (3 + d)) (μ1.2 5 (3 + d)) (ν.1 5 (3 + d)) (ν.2 20) n (a1 23) (a1 24) (a1 25) (a1 31) o d k := by
    rw [mm 4 (by decide), m7]
    refine ⟨k1, k2, k3, k4, k5, fun i hi => ?_, fun o' p1 p2 p3 p4 => ?_, fun i j hij hj he => ?_, fun i j hij hj ni nj => ?_⟩
    · obtain ⟨o', p1, p2, p3, p4⟩ := k6 i hi
      refine ⟨o', p1, p2, fun hne => ?_⟩
      rw [n24 o' hne, gg 23 (by decide)]
      exact ⟨p3, p4⟩
    · rw [n24 o' p2] at p3
      rw [gg 23 (by decide)] at p4
      exact k7 o' p1 p3 p4
    · have := k8 i j hij hj
      rw [he] at this
      unfold aheadR at this
      rcases this with h | h
      · exact Int32.lt_irrefl h.2
      · exact h.1 rfl
    · obtain ⟨o1', p1, -⟩ := k6 i (by omega)
      obtain ⟨o2', q1, -⟩ := k6 j hj
      have := k8 i j hij hj
      rw [p1] at ni
      rw [q1] at nj
      rw [p1, q1, Nat.add_sub_cancel, Nat.add_sub_cancel] at this ⊢
      exact hah o1' o2' (by omega) (by omega) this
  obtain ⟨μ', ν', e1, e2, f1, f2, f3, f4, f5, f6, f7, f8⟩ := k_rank (w := w) (r := a 0 32) h0 hd y4 y3 ho hb hW (by rw [g2, up1_s]; exact hx) (by rw [gg 23 (by decide)]; exact h23) (fun o' p1 p2 p3 => by rw [gg 31 (by decide)]; rw [n24 o' p2] at p3; exact hr o' p1 p2 p3) hw
  refine ⟨μ', ν', e1, ?_, f5, f8⟩
  have b0 : ∀ i, i ≠ 32 → gBehind a1 o 0 i = a 0 i := fun i hi => by
    unfold gBehind
    rw [up2_n _ _ (by omega), up2_n _ _ (by omega), gg 0 (by decide)]
  have br : ∀ k, k ≠ 0 ∧ k ≠ 31 → gBehind a1 o k = a1 k := fun k hk => by
    unfold gBehind
    funext i
    rw [up2_n _ _ (by omega), up2_n _ _ (by omega)]
  have b31 : gBehind a1 o 31 = up1 (a1 31) o (a 0 32) := by
    unfold gBehind
    funext i
    rw [gg 0 (by decide), up2_n _ _ (by omega)]
    by_cases c : i = o
    · subst c; rw [up2_s, up1_s]
    · rw [up2_n _ _ (by omega), up1_n _ _ c]
  have bg : ∀ k, k ≠ 0 ∧ k ≠ 31 ∧ k ≠ 24 ∧ k ≠ 25 ∧ k ≠ 26 → gBehind a1 o k = a k := fun k hk => (br k ⟨hk.1, hk.2.1⟩).trans (gg k ⟨hk.2.2.1, hk.2.2.2.1, hk.2.2.2.2⟩)
  have vv : ∀ k, k ≠ 4 ∧ k ≠ 20 ∧ k ≠ 21 → μ'.1 k = μ.1 k := fun k hk => (f1 k hk.1).trans (mm k hk.2)
  have v4 : ∀ j, j ≠ 3 + d → μ'.1 4 j = μ.1 4 j := fun j hj => by rw [f2 j hj, mm 4 (by decide)]
  have vp : ∀ k, k ≠ 5 → μ'.2 k = μ.2 k := fun k hk => by rw [f3 k hk, m7]
  have vp5 : ∀ j, j ≠ 3 + d → μ'.2 5 j = μ.2 5 j := fun j hj => by rw [f4 j hj, m7]
  have ww : ∀ k, k ≠ 5 ∧ k ≠ 98 → ν'.1 k = ν.1 k := fun k hk => f6 k hk.1 hk.2
  refine ⟨?_, ?_, ?_, ?_, ?_, ?_, ?_, ?_, ?_, ?_, ?_⟩
  · unfold R0; rw [f5, ww 30 (by decide), ww 31 (by decide)]; exact h0
  · intro κ hκ k' i' j hk' hi'
    rw [f5]
    by_cases c5 : k' = 5
    · subst c5
      by_cases ci : i' = 3 + d
      · subst ci
        have : κ = 20 := by rw [← hi']; rcases (show d = 0 ∨ d = 1 by omega) with rfl | rfl <;> rfl
        subst this
        obtain ⟨_, _, _, _, _, q, _⟩ := e2
        exact q j
      · rw [vp5 i' ci]; exact hF κ hκ 5 i' j hk' hi'
    · rw [vp k' c5]; exact hF κ hκ k' i' j hk' hi'
  · rw [vv 0 (by decide), b0 2 (by decide), b0 1 (by decide), b0 44 (by decide)]; exact h1
  · rw [vv 1 (by decide), b0 2 (by decide), bg 3 (by decide), bg 5 (by decide), bg 7 (by decide), bg 8 (by decide), bg 9 (by decide), bg 10 (by decide)]; exact h2
  · rw [vv 6 (by decide), vv 8 (by decide), ww 8 (by decide), f5, bg 4 (by decide), bg 11 (by decide), bg 12 (by decide), bg 13 (by decide), bg 14 (by decide), bg 15 (by decide), bg 16 (by decide), bg 17 (by decide), bg 37 (by decide), bg 39 (by decide), bg 40 (by decide)]
    refine ⟨fun s hs => ?_, fun s s' i i' hs hs' hi hi' hp => ?_⟩
    · rw [v4 s (by omega), vp5 s (by omega), f7 s (by omega)]; exact h3.1 s hs
    · rw [vp5 s (by omega), vp5 s' (by omega)] at hp; exact h3.2 s s' i i' hs hs' hi hi' hp
  · rw [vv 2 (by decide), vv 10 (by decide), vv 11 (by decide), vv 12 (by decide), ww 10 (by decide), ww 11 (by decide), ww 12 (by decide), bg 19 (by decide), bg 20 (by decide), bg 21 (by decide)]; exact h4
  · rw [vv 3 (by decide), vv 13 (by decide), ww 13 (by decide), bg 5 (by decide), bg 6 (by decide), bg 18 (by decide)]; exact h5
  · rw [b0 22 (by decide), f5, bg 23 (by decide), bg 27 (by decide), bg 28 (by decide), bg 29 (by decide), bg 30 (by decide), br 24 (by decide), br 25 (by decide), br 26 (by decide), f1 20 (by decide), f1 21 (by decide)]
    refine ⟨by rw [v4 2 (by omega)]; exact y1, n, y2, y3, y4, by rw [f7 2 (by omega)]; exact y5, by rw [f7 2 (by omega)]; exact y6, by rw [vp5 2 (by omega)]; exact y7, fun o' ho' => ?_⟩
    obtain ⟨t1, t2, t3, t4, t5, t6, t7, t8, t9⟩ := y8 o' ho'
    rw [vp5 2 (by omega)]
    have n24' : a1 24 o' = a 24 o' := by rw [g2, up1_n _ _ (by omega)]
    rw [n24']
    by_cases c : o' = o
    · subst c
      rw [m3 0 (by decide), m3 1 (by decide), m3 4 (by decide), m3 5 (by decide), m3 7 (by decide), m4, g2, up1_s]
      refine ⟨t1, t2, t3, t4, t5, t6, rfl, t8, fun z hz => ?_⟩
      obtain ⟨u1, u2, u3, u4⟩ := t9 z hz
      rcases (show z = 0 ∨ z = 1 by omega) with rfl | rfl
      · rw [m5 _ (by omega), g3, g4, up1_n _ _ (by omega), up1_n _ _ (by omega)]
        exact ⟨u1, u2, u3, u4⟩
      · rw [m6.1, m6.2.1, m6.2.2.1, m6.2.2.2, g3, g4, show 40 * 1 + o' = 40 + o' by omega, up1_s, up1_s]
        exact ⟨rfl, rfl, u3, u4⟩
    · rw [m2 o' c, n24 o' c]
      refine ⟨t1, t2, t3, t4, t5, t6, t7, t8, fun z hz => ?_⟩
      obtain ⟨u1, u2, u3, u4⟩ := t9 z hz
      rw [m5 _ (by omega), g3, g4, up1_n _ _ (by omega), up1_n _ _ (by omega)]
      exact ⟨u1, u2, u3, u4⟩
  · rw [b0 22 (by decide), b0 35 (by decide), f5, vv 23 (by decide), vp 23 (by decide), bg 36 (by decide), bg 37 (by decide), bg 38 (by decide), bg 39 (by decide), bg 40 (by decide), bg 41 (by decide), bg 42 (by decide), bg 43 (by decide)]
    exact R7_of h7 (v4 5 (by omega)) (vp5 5 (by omega)) (f7 5 (by omega))
  · rw [vp 24 (by decide), ww 24 (by decide), vv 25 (by decide), bg 33 (by decide), bg 34 (by decide)]; exact h8
  · rw [b0 22 (by decide), f5, br 23 (by decide), br 24 (by decide), br 25 (by decide), b31]
    intro d' hd'
    rw [tn22]
    by_cases c : d' = d
    · subst c
      exact e2
    · obtain ⟨k', j1, j2, j3, j4, j5, j6, j7, j8⟩ := h9 d' hd'
      rw [tn22] at j6 j7
      rw [v4 _ (by omega), vp5 _ (by omega), f7 _ (by omega)]
      have hne : ∀ o', a 23 o' = nI d' → o' ≠ o := fun o' e c' => by
        subst c'
        exact c ((nI_eq (by omega) (by omega)).mp (e.symm.trans h23))
      refine ⟨k', j1, j2, j3, j4, j5, fun i hi => ?_, fun o' p1 p2 p3 => ?_, fun i j hij hj => ?_⟩
      · obtain ⟨o', p1, p2, p3, p4⟩ := j6 i hi
        refine ⟨o', p1, p2, ?_, ?_⟩
        · rw [n24 o' (hne o' p4)]; exact p3
        · rw [gg 23 (by decide)]; exact p4
      · rw [gg 23 (by decide)] at p3
        rw [n24 o' (hne o' p3)] at p2
        exact j7 o' p1 p2 p3
      · obtain ⟨o1', p1, p2, p3, p4⟩ := j6 i (by omega)
        obtain ⟨o2', q1, q2, q3, q4⟩ := j6 j hj
        have := j8 i j hij hj
        rw [p1, q1, Nat.add_sub_cancel, Nat.add_sub_cancel] at this ⊢
        have := hah o1' o2' (hne o1' p4) (hne o2' q4) this
        unfold aheadR at this ⊢
        rw [up1_n _ _ (hne o1' p4), up1_n _ _ (hne o2' q4)]
        exact this
theorem hC8 : ∀ (ν0 : NC) (y : Nat) (c d : Int), RC c d ν0 → RC (c + 8) (d + y) (chg ν0 1 y) := fun ν0 y c d hC => by
  obtain ⟨g1, g2⟩ := hC
  refine ⟨?_, ?_⟩
  · simp (disch := omega) only [kc, chg, up2_n, up2_s] at g1 ⊢
    omega
  · simp (disch := omega) only [ks, chg, up2_n, up2_s] at g2 ⊢
    omega
theorem RR_chg {μ : MP} {ν : NC} {a : AS} (x y : Nat) (h : RR μ ν a) : RR μ (chg ν x y) a := h
theorem RC_le {ν : NC} {c d c' d' : Int} (h : RC c d ν) (h1 : c ≤ c') (h2 : d ≤ d') : RC c' d' ν := by
  obtain ⟨g1, g2⟩ := h
  exact ⟨by omega, by omega⟩
/-- what a side must have room for to send k more -/
def roomS (a : AS) (s k : Nat) : Prop := ∃ n c : Nat, a 4 s = nI n ∧ n + k ≤ 8190 ∧ a 20 (1 - s) = nI c ∧ c + k ≤ 65536
theorem roomS_le {a : AS} {s k k' : Nat} (h : roomS a s k) (hk : k' ≤ k) : roomS a s k' := by
  obtain ⟨n, c, h1, h2, h3, h4⟩ := h
  exact ⟨n, c, h1, by omega, h3, by omega⟩
theorem roomS_of {a b : AS} {s k : Nat} (h : roomS a s k) (h1 : b 4 s = a 4 s) (h2 : b 20 (1 - s) = a 20 (1 - s)) : roomS b s k := by
  obtain ⟨n, c, g1, g2, g3, g4⟩ := h
  exact ⟨n, c, h1.trans g1, g2, h2.trans g3, g4⟩
theorem roomS_send {a : AS} {s k : Nat} {kd o1 o2 o3 o4 : Int32} (h : roomS a s (k + 1)) : roomS (gSends a s kd o1 o2 o3 o4) s k := by
  obtain ⟨n, c, g1, g2, g3, g4⟩ := h
  refine ⟨n + 1, if a 0 2 = 0 then c else c + 1, gSends_4 a s n kd o1 o2 o3 o4 g1 (by omega), by omega, ?_, by split <;> omega⟩
  unfold gSends
  by_cases hu : a 0 2 = 0
  · rw [if_pos hu, if_pos hu, gKeep_k _ _ _ _ _ _ _ _ _ (by decide) (by decide)]
    exact g3
  · rw [if_neg hu, if_neg hu]
    have e20 : gKeep a s kd o1 o2 o3 o4 20 (1 - s) = nI c := by rw [gKeep_k _ _ _ _ _ _ _ _ _ (by decide) (by decide)]; exact g3
    unfold gGoes
    rw [up2_n _ _ (by omega), up2_s, e20, tnI (by omega)]
theorem k_sendL {w : Nat} {μ : MP} {ν : NC} {a : AS} {s nb : Nat} {fb0 : Nat → Int32} {kd o1 o2 o3 o4 : Int32} (hR : RR μ ν a) (hs : s < 2) (hrm : roomS a s 1) (hnb : nb ≤ 806) (hb : bodyR (fun _ => kd) (fun _ => o1) (fun _ => o2) (fun _ => o3) (fun _ => o4) (a 37) (a 39) (a 40) 0 nb fb0) :
    ∃ (μ' : MP) (ν' : NC), f_X8_send_L w μ ν (nI s) kd nb fb0 = some ((μ', ν'), 0) ∧ RR μ' ν' (gSends a s kd o1 o2 o3 o4) ∧ ν'.2 6 = ν.2 6 + 1 ∧ ν'.2 20 = ν.2 20 ∧ ν'.2 23 = ν.2 23 ∧ ∀ c d : Int, RC c d ν → RC (c - 96) (d + nb - 66) ν' := by
  obtain ⟨n, c, g1, g2, g3, g4⟩ := hrm
  exact k_send_L hR hs g1 (by omega) (fun _ => ⟨c, g3, by omega⟩) hnb hb
theorem k_sendN {w : Nat} {μ : MP} {ν : NC} {a : AS} {s k : Nat} (hR : RR μ ν a) (hs : s < 2) (hrm : roomS a s 1) (hk : k < 3) :
    ∃ (μ' : MP) (ν' : NC), f_X8_send_N w μ ν (nI s) (nI k) = some ((μ', ν'), 0) ∧ RR μ' ν' (gSends a s (nI k) (nI 0) (nI 0) (nI 0) (nI 0)) ∧ ν'.2 6 = ν.2 6 + 1 ∧ ν'.2 20 = ν.2 20 ∧ ν'.2 23 = ν.2 23 ∧ ∀ c d : Int, RC c d ν → RC c d ν' := by
  obtain ⟨n, c, g1, g2, g3, g4⟩ := hrm
  obtain ⟨μ', ν', e1, e2, e3, e4, e5, e6⟩ := k_send_N (w := w) (nb := 0) (kd := nI k) (o1 := nI 0) (o2 := nI 0) (o3 := nI 0) (o4 := nI 0) hR hs g1 (by omega) (fun _ => ⟨c, g3, by omega⟩) (by omega) (Or.inl ⟨by rcases (show k = 0 ∨ k = 1 ∨ k = 2 by omega) with rfl | rfl | rfl <;> simp, rfl⟩) rfl
  exact ⟨μ', ν', e1, e2, e3, e4, e5, fun c y hC => RC_le (e6 c y hC) (by omega) (by omega)⟩
/-- a plain report -/
theorem k_plain {w o σ : Nat} {μ : MP} {ν : NC} {a : AS} (hR : RR μ ν a) (ho : o < tn (a 0 22)) (hσ : σ = 0 ∨ σ = 4) (hrm : roomS a 1 1) :
    ∃ (μ' : MP) (ν' : NC), f_X8_reportPlainly w μ ν (nI σ) (o + 1) = some ((μ', ν'), 0) ∧ RR μ' ν' (gRep a (nI σ) o (nI 0) (nI 0)) ∧ ν'.2 6 = ν.2 6 + 1 ∧ ν'.2 20 = ν.2 20 ∧ ν'.2 23 = ν.2 23 ∧ ∀ c d : Int, RC c d ν → RC c d ν' := by
  obtain ⟨o1, o2, o3, o4, -⟩ := ordOf hR ho
  obtain ⟨μ', ν', e1, e2, e3, e4, e5, e6⟩ := k_sendL (w := w) (s := 1) (nb := 4) (fb0 := up1 (up1 (up1 (up1 (fun _ => (0 : Int32)) 0 (150 : Int32)) 1 (nI σ)) 2 (37 : Int32)) 3 (μ.1 20 o 0)) (kd := nI 8) (o1 := nI σ) (o2 := nI o) (o3 := nI 0) (o4 := nI 0) (RR_chg 1 4 hR) (by decide) hrm (by omega) (Or.inr (Or.inr (Or.inr (Or.inr (Or.inr ⟨rfl, rfl, rfl, rfl, o4, Or.inl ⟨by rcases hσ with rfl | rfl <;> simp, rfl⟩⟩)))))
  refine ⟨μ', ν', ?_, e2, e3, e4, e5, fun c y hC => RC_le (e6 _ _ (hC8 _ 4 _ _ hC)) (by omega) (by omega)⟩
  unfold f_X8_reportPlainly b_X8_reportPlainly_7
  rw [nzs, Nat.add_sub_cancel, show (chg ν 1 4).2 = ν.2 from rfl, ltt o1, ltt hR.1.1, q1, q8, e1]
  rfl
/-! a message's body, by its kind -/
theorem body5 {b11 b14 b15 b16 b17 b37 b39 b40 fb : Nat → Int32} {q nb : Nat} (h : bodyR b11 b14 b15 b16 b17 b37 b39 b40 q nb fb) (e : b11 q = nI 5) : nb = 8 ∧ fb 0 = nI 11 ∧ fb 1 = b14 q ∧ fb 2 = nI 54 ∧ fb 3 = b15 q ∧ fb 4 = nI 44 ∧ fb 5 = b16 q ∧ fb 6 = nI 38 ∧ fb 7 = b17 q := by
  rcases h with ⟨h | h | h, -⟩ | ⟨h, -⟩ | ⟨-, h⟩ | ⟨h, -⟩ | ⟨h, -⟩ | ⟨h, -⟩
  all_goals first | exact h | exact absurd (h.symm.trans e) (by decide)
theorem body6 {b11 b14 b15 b16 b17 b37 b39 b40 fb : Nat → Int32} {q nb : Nat} (h : bodyR b11 b14 b15 b16 b17 b37 b39 b40 q nb fb) (e : b11 q = nI 6) : nb = 2 ∧ fb 0 = nI 41 ∧ fb 1 = b14 q := by
  rcases h with ⟨h | h | h, -⟩ | ⟨h, -⟩ | ⟨h, -⟩ | ⟨-, h⟩ | ⟨h, -⟩ | ⟨h, -⟩
  all_goals first | exact h | exact absurd (h.symm.trans e) (by decide)
theorem body7 {b11 b14 b15 b16 b17 b37 b39 b40 fb : Nat → Int32} {q nb : Nat} (h : bodyR b11 b14 b15 b16 b17 b37 b39 b40 q nb fb) (e : b11 q = nI 7) : nb = 6 ∧ fb 0 = nI 41 ∧ fb 1 = b14 q ∧ fb 2 = nI 44 ∧ fb 3 = b15 q ∧ fb 4 = nI 38 ∧ fb 5 = b16 q := by
  rcases h with ⟨h | h | h, -⟩ | ⟨h, -⟩ | ⟨h, -⟩ | ⟨h, -⟩ | ⟨-, h⟩ | ⟨h, -⟩
  all_goals first | exact h | exact absurd (h.symm.trans e) (by decide)
theorem body3 {b11 b14 b15 b16 b17 b37 b39 b40 fb : Nat → Int32} {q nb : Nat} (h : bodyR b11 b14 b15 b16 b17 b37 b39 b40 q nb fb) (e : b11 q = nI 3) : nb = 2 ∧ fb 0 = nI 7 ∧ fb 1 = b14 q := by
  rcases h with ⟨h | h | h, -⟩ | ⟨-, h⟩ | ⟨h, -⟩ | ⟨h, -⟩ | ⟨h, -⟩ | ⟨h, -⟩
  all_goals first | exact h | exact absurd (h.symm.trans e) (by decide)
theorem fOk_of {a b : AS} (h : fOk a) (h4 : b 4 = a 4) (h11 : b 11 = a 11) (h14 : b 14 = a 14) (h16 : b 16 = a 16) (h17 : b 17 = a 17) (h35 : tn (a 0 35) ≤ tn (b 0 35)) : fOk b := by
  unfold fOk at h ⊢
  rw [h4, h11, h14, h16, h17]
  intro s i hs hi k8 k1 f t ef et hft
  exact Nat.le_trans (h s i hs hi k8 k1 f t ef et hft) h35
theorem fOk_send {a : AS} {s n : Nat} {kd o1 o2 o3 o4 : Int32} (h : fOk a) (hs : s < 2) (e4 : a 4 s = nI n) (hn : n + 1 ≤ 8190) (ho : ∀ s', s' < 2 → tn (a 4 s') ≤ 8190) (hk : kd = nI 8 → o1 = nI 1 → ∀ f t : Nat, o3 = nI f → o4 = nI t → f + t ≤ 100 → f + t ≤ tn (a 0 35)) : fOk (gSends a s kd o1 o2 o3 o4) := by
  obtain ⟨r4, r11, r12, r13, r14, r15, r16, r17⟩ := gKeep_rows a s n kd o1 o2 o3 o4 e4 (by omega)
  have gq : ∀ k, k ≠ 21 ∧ k ≠ 20 ∧ k ≠ 9 → gSends a s kd o1 o2 o3 o4 k = gKeep a s kd o1 o2 o3 o4 k := fun k hk => gSends_q a s kd o1 o2 o3 o4 k hk.1 hk.2.1 hk.2.2
  intro s' i hs' hi
  rw [gq 11 (by decide), gq 14 (by decide), gq 16 (by decide), gq 17 (by decide), gSends_k _ _ _ _ _ _ _ _ _ (by decide) (by decide) (by decide) (by decide) (by decide), r11, r14, r16, r17]
  rw [gq 4 (by decide), r4] at hi
  have h8 := ho s' hs'
  by_cases c : s' = s ∧ i = n
  · obtain ⟨rfl, rfl⟩ := c
    rw [up1_s, up1_s, up1_s, up1_s]
    exact hk
  · have hi' : i < tn (a 4 s') := by
      by_cases c1 : s' = s
      · subst c1
        rw [up1_s, tnI (by omega)] at hi
        rw [e4, tnI (by omega)]
        omega
      · rw [up1_n _ _ c1] at hi; exact hi
    have hne : 8192 * s' + (i + 1) ≠ 8192 * s + (n + 1) := by omega
    rw [up1_n _ _ hne, up1_n _ _ hne, up1_n _ _ hne, up1_n _ _ hne]
    exact h s' i hs' hi'
