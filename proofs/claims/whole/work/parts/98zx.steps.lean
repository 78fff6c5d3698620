/-! Both sides between calls: each call, with its costs. -/
def KB (N : Nat) (c0 d0 : Int) (S : (MP × NC) × AS) : Prop := ∃ (n : Nat → Nat) (l0 l1 : Nat), sm8 n ≤ N ∧ KA n l0 l1 S.2 ∧ RR S.1.1 S.1.2 S.2 ∧ bal S.1.2 S.2 ≤ ((l0 + l1 : Nat) : Int) ∧ RC c0 d0 S.1.2
def sp (N : Nat) (c0 d0 : Int) (x : Option ((MP × NC) × AS)) : Prop := ∃ S, x = some S ∧ KB N c0 d0 S
theorem sp_om {N : Nat} {c0 d0 : Int} {ν : NC} {a a' : AS} {x : Option ((MP × NC) × AS)} {n : Nat → Nat} {l0 l1 : Nat} (h : om ν a x a') (hN : sm8 n ≤ N) (hk : KA n l0 l1 a') (hb : bal ν a ≤ ((l0 + l1 : Nat) : Int)) (hc : RC c0 d0 ν) : sp N c0 d0 x := by
  obtain ⟨μ', ν', e, hR, hb', hc'⟩ := h
  exact ⟨((μ', ν'), a'), e, n, l0, l1, hN, hk, hR, by show bal ν' a' ≤ _; rw [hb']; exact hb, hc' _ _ hc⟩
theorem sp_oq {N : Nat} {c0 d0 : Int} {μ : MP} {ν : NC} {a : AS} {x : Option ((MP × NC) × AS)} (h : oq ν a x) (hk : KB N c0 d0 ((μ, ν), a)) : sp (N + 1) c0 d0 x := by
  obtain ⟨t, ht⟩ := om_q h
  obtain ⟨n, l0, l1, k1, k2, k3, k4, k5⟩ := hk
  exact sp_om ht (Nat.le_succ_of_le k1) (KA_00 k2) k4 k5
theorem sp_0 {N : Nat} {c0 d0 : Int} {μ : MP} {ν : NC} {a : AS} {x : Option ((MP × NC) × AS)} (h : ∃ t, om ν a x (up2 a 0 0 t)) (hk : KB N c0 d0 ((μ, ν), a)) : sp (N + 1) c0 d0 x := by
  obtain ⟨t, ht⟩ := h
  obtain ⟨n, l0, l1, k1, k2, k3, k4, k5⟩ := hk
  exact sp_om ht (Nat.le_succ_of_le k1) (KA_00 k2) k4 k5
theorem sm_nb {n : Nat → Nat} {i N : Nat} (hi : i ≤ 7) (h : sm8 n ≤ N) : sm8 (nb n i) ≤ N + 1 := by
  rw [sm8_nb hi]
  omega
/-- costs -/
theorem KB_cost {N : Nat} {c0 d0 : Int} {S : (MP × NC) × AS} (hN : N ≤ 512) (hc : c0 ≤ 0) (hd : d0 ≤ 0) (h : KB N c0 d0 S) : kc S.1.2 ≤ 280000 ∧ ks S.1.2 ≤ 2800000 := by
  obtain ⟨⟨μ, ν⟩, a⟩ := S
  obtain ⟨n, l0, l1, k1, k2, k3, k4, k5⟩ := h
  obtain ⟨hO, -⟩ := KA_O k2
  obtain ⟨-, gL, gb, gt, gG, gz, hD, hp⟩ := k2.1
  obtain ⟨p1, p2, p3⟩ := pot_lg (by omega) hO hp
  obtain ⟨h0, hF, h1, h2, h3, h4, h5, h6, h7, h8, h9⟩ := k3
  obtain ⟨-, n0, -, -, -, a0, -⟩ := h3.1 0 (by decide)
  obtain ⟨-, n1, -, -, -, a1, -⟩ := h3.1 1 (by decide)
  obtain ⟨-, k20, -, b1, b2, b3, b4, -⟩ := h6
  obtain ⟨-, k23, -, b5, b6, b7, b8, -⟩ := h7
  obtain ⟨_, _, _, -, -, -, -, -, -, -, -, -, w0, -⟩ := h4 0 (by decide)
  obtain ⟨_, _, _, -, -, -, -, -, -, -, -, -, w1, -⟩ := h4 1 (by decide)
  obtain ⟨-, -, v0, -⟩ := h5 0 (by decide)
  obtain ⟨-, -, v1, -⟩ := h5 1 (by decide)
  obtain ⟨_, -, -, -, r0, -⟩ := h9 0 (by decide)
  obtain ⟨_, -, -, -, r1, -⟩ := h9 1 (by decide)
  unfold RC at k5
  unfold bal at k4
  unfold lgN at p1 p2
  replace a0 : ν.1 5 0 ≤ 12300 := a0
  replace a1 : ν.1 5 1 ≤ 12300 := a1
  replace b2 : ν.2 20 = k20 := b2
  replace b4 : ν.1 5 2 ≤ 12300 := b4
  replace b6 : ν.2 23 = k23 := b6
  replace b8 : ν.1 5 5 ≤ 12300 := b8
  replace w0 : ν.1 10 0 ≤ 131072 := w0
  replace w1 : ν.1 10 1 ≤ 131072 := w1
  replace v0 : ν.1 13 0 ≤ 16400 := v0
  replace v1 : ν.1 13 1 ≤ 16400 := v1
  replace r0 : ν.1 5 3 ≤ 12300 := r0
  replace r1 : ν.1 5 4 ≤ 12300 := r1
  replace p1 : tn (a 4 0) + l0 ≤ 2600 := p1
  replace p2 : tn (a 4 1) + l1 ≤ bH n := p2
  dsimp only at k4 k5 ⊢
  omega
theorem st_connect {w N : Nat} {c0 d0 : Int} {μ : MP} {ν : NC} {a : AS} {x : Int32} (hw : 8200 < w) (hN : N + 1 ≤ 512) (h : KB N c0 d0 ((μ, ν), a)) : sp (N + 1) c0 d0 (s_connect w μ ν a x) := by
  obtain ⟨n, l0, l1, k1, k2, k3, k4, k5⟩ := id h
  have hn : sm8 (nb n 7) ≤ N + 1 := sm_nb (by decide) k1
  rcases o_connect (w := w) (x := x) k3 (by omega) (fun hd z => (KA_con z (by omega) hd k2).2) with ⟨-, h1⟩ | ⟨hd, z, μ', ν', e, hR, hb, hc⟩
  · exact sp_0 ⟨_, h1⟩ h
  · refine ⟨((μ', ν'), gConnect a z), e, nb n 7, _, _, hn, (KA_con z (by omega) hd k2).1, hR, ?_, hc _ _ k5⟩
    show bal ν' (gConnect a z) ≤ _
    rw [hb]
    have v0 := (gCon0_v a z 0 (by decide)).1
    have v1 := (gCon0_v a z 1 (by decide)).1
    unfold bal at k4 ⊢
    rw [v0, v1]
    unfold lgN
    cases z with
    | false => exact k4
    | true =>
      have e0 : tn (nI 0) = 0 := rfl
      simp only [if_true, e0]
      dsimp only at k4
      omega
theorem st_cut {w N : Nat} {c0 d0 : Int} {μ : MP} {ν : NC} {a : AS} (hw : 8200 < w) (h : KB N c0 d0 ((μ, ν), a)) : sp (N + 1) c0 d0 (s_cut w μ ν a) := by
  obtain ⟨n, l0, l1, k1, k2, k3, k4, k5⟩ := h
  obtain ⟨μ', a', e, hR, ea⟩ := o_cut (w := w) k3 (by omega)
  refine ⟨((μ', ν), a'), e, n, l0, l1, Nat.le_succ_of_le k1, ?_, hR, ?_, k5⟩
  · show KA n l0 l1 a'
    rw [ea]
    split
    · exact KA_00 k2
    · exact KA_cut k2
  · have e4 : a' 4 = a 4 := by
      rw [ea]
      split
      · exact up2_k _ _ (by omega)
      · rw [gDown_r _ 4 (by omega) (by omega) (by omega) (by omega) (by omega) (by omega) (by omega), up2_k _ _ (by omega)]
    show bal ν a' ≤ _
    rw [bal_of rfl e4]
    exact k4
theorem st_come {w N : Nat} {c0 d0 : Int} {μ : MP} {ν : NC} {a : AS} {x y : Int32} (hw : 8200 < w) (hN : N + 1 ≤ 512) (h : KB N c0 d0 ((μ, ν), a)) : sp (N + 1) c0 d0 (s_come w μ ν a x y) := by
  obtain ⟨n, l0, l1, k1, k2, k3, k4, k5⟩ := id h
  have hn : ∀ s, s < 2 → sm8 (nb n (1 + s)) ≤ N + 1 := fun s hs => sm_nb (by omega) k1
  rcases o_come (w := w) (x := x) (y := y) k3 hw (fun s d hs _ hd _ => (KA_come (w := w) (by have := hn s hs; omega) hs (by omega) hd k2).2) with h1 | ⟨s, d, hs, -, hd, -, h1⟩
  · exact sp_oq h1 h
  · exact sp_om h1 (hn s hs) (KA_come (w := w) (by have := hn s hs; omega) hs (by omega) hd k2).1 k4 k5
theorem st_garble {w N : Nat} {c0 d0 : Int} {μ : MP} {ν : NC} {a : AS} {x y : Int32} (hN : N + 1 ≤ 512) (h : KB N c0 d0 ((μ, ν), a)) : sp (N + 1) c0 d0 (s_garble w μ ν a x y) := by
  obtain ⟨n, l0, l1, k1, k2, k3, k4, k5⟩ := id h
  have hn : sm8 (nb n 3) ≤ N + 1 := sm_nb (by decide) k1
  rcases o_garble (w := w) (x := x) (y := y) k3 with h1 | ⟨s, k, hs, hk, -, -, h1⟩
  · exact sp_oq h1 h
  · exact sp_om h1 hn (KA_garble (by omega) hs hk k2) k4 k5
theorem st_pass {w N : Nat} {c0 d0 : Int} {μ : MP} {ν : NC} {a : AS} {x : Int32} (hw : 8200 < w) (hN : N + 1 ≤ 512) (h : KB N c0 d0 ((μ, ν), a)) : sp (N + 1) c0 d0 (s_pass w μ ν a x) := by
  obtain ⟨n, l0, l1, k1, k2, k3, k4, k5⟩ := id h
  have hn : sm8 (nb n 0) ≤ N + 1 := sm_nb (by decide) k1
  rcases o_pass (w := w) (x := x) k3 (by omega) (fun t _ ht _ => (KA_pass (by omega) ht k2).2) with h1 | ⟨t, t1, t2, -, h1⟩
  · exact sp_0 ⟨_, h1⟩ h
  · exact sp_om h1 hn (KA_pass (by omega) t2 k2).1 k4 k5
theorem KB_rm {n : Nat → Nat} {l0 l1 s k : Nat} {a : AS} (hn : sm8 n ≤ 512) (h : KA n l0 l1 a) (hs : s < 2) (hk : k ≤ 2) : roomS a s k := SI_roomS h.1 hn (KA_O h).1 hs (by omega)
theorem st_order {w N : Nat} {c0 d0 : Int} {μ : MP} {ν : NC} {a : AS} {x y z : Int32} (hN : N + 1 ≤ 512) (h : KB N c0 d0 ((μ, ν), a)) : sp (N + 1) c0 d0 (s_order w μ ν a x y z) := by
  obtain ⟨n, l0, l1, k1, k2, k3, k4, k5⟩ := id h
  have hn : sm8 (nb n 4) ≤ N + 1 := sm_nb (by decide) k1
  have hfo : frO a := by obtain ⟨-, -, -, ⟨E, R, m⟩, -⟩ := k2; exact MI_frO m
  rcases o_order (w := w) (x1 := x) (x2 := y) (x3 := z) k3 hfo (fun _ => KB_rm (by omega) k2 (by decide) (by decide)) with h1 | ⟨k, d, e22, hk, hd, -, hy, hz, -, h1⟩
  · exact sp_0 h1 h
  · obtain ⟨hO, e1, e2⟩ := KA_O k2
    have ek : k = n 4 := (nI_eq (by omega) (by omega)).mp (e22.symm.trans e2)
    subst ek
    obtain ⟨v, hv, rfl⟩ := rg_n (lo := 1) (hi := 100) (by decide) (by decide) hy
    obtain ⟨u, hu, rfl⟩ := rg_n (lo := 1) (hi := 100) (by decide) (by decide) hz
    exact sp_om h1 hn (KA_order (by omega) hk hd (by omega) (by omega) k2) k4 k5
theorem st_cancel {w N : Nat} {c0 d0 : Int} {μ : MP} {ν : NC} {a : AS} {x : Int32} (hN : N + 1 ≤ 512) (h : KB N c0 d0 ((μ, ν), a)) : sp (N + 1) c0 d0 (s_cancel w μ ν a x) := by
  obtain ⟨n, l0, l1, k1, k2, k3, k4, k5⟩ := id h
  have hn : sm8 (nb n 5) ≤ N + 1 := sm_nb (by decide) k1
  rcases o_cancel (w := w) (x := x) k3 (fun _ => KB_rm (by omega) k2 (by decide) (by decide)) with h1 | ⟨o, ho, -, -, h1⟩
  · exact sp_0 h1 h
  · rw [(KA_O k2).2.1] at ho
    exact sp_om h1 hn (KA_req (by omega) ho (Or.inl rfl) (by decide) (by decide) k2) k4 k5
theorem st_replace {w N : Nat} {c0 d0 : Int} {μ : MP} {ν : NC} {a : AS} {x y z : Int32} (hN : N + 1 ≤ 512) (h : KB N c0 d0 ((μ, ν), a)) : sp (N + 1) c0 d0 (s_replace w μ ν a x y z) := by
  obtain ⟨n, l0, l1, k1, k2, k3, k4, k5⟩ := id h
  have hn : sm8 (nb n 5) ≤ N + 1 := sm_nb (by decide) k1
  rcases o_replace (w := w) (x := x) (y := y) (z := z) k3 (fun _ => KB_rm (by omega) k2 (by decide) (by decide)) with h1 | ⟨o, ho, -, -, hy, hz, h1⟩
  · exact sp_0 h1 h
  · rw [(KA_O k2).2.1] at ho
    obtain ⟨v, hv, rfl⟩ := rg_n (lo := 1) (hi := 100) (by decide) (by decide) hy
    obtain ⟨u, hu, rfl⟩ := rg_n (lo := 1) (hi := 100) (by decide) (by decide) hz
    exact sp_om h1 hn (KA_req (by omega) ho (Or.inr rfl) (by omega) (by omega) k2) k4 k5
theorem st_bust {w N : Nat} {c0 d0 : Int} {μ : MP} {ν : NC} {a : AS} {x : Int32} (hN : N + 1 ≤ 512) (h : KB N c0 d0 ((μ, ν), a)) : sp (N + 1) c0 d0 (s_bust w μ ν a x) := by
  obtain ⟨n, l0, l1, k1, k2, k3, k4, k5⟩ := id h
  have hn : sm8 (nb n 6) ≤ N + 1 := sm_nb (by decide) k1
  rcases o_bust (w := w) (x := x) k3 (KB_rm (by omega) k2 (by decide) (by decide)) with h1 | ⟨e, he, -, h43, h1⟩
  · exact sp_0 h1 h
  · exact sp_om h1 hn (KA_bust (by omega) he h43 k2) k4 k5
theorem st_correct {w N : Nat} {c0 d0 : Int} {μ : MP} {ν : NC} {a : AS} {x y : Int32} (hN : N + 1 ≤ 512) (h : KB N c0 d0 ((μ, ν), a)) : sp (N + 1) c0 d0 (s_correct w μ ν a x y) := by
  obtain ⟨n, l0, l1, k1, k2, k3, k4, k5⟩ := id h
  have hn : sm8 (nb n 6) ≤ N + 1 := sm_nb (by decide) k1
  rcases o_correct (w := w) (x := x) (y := y) k3 (KB_rm (by omega) k2 (by decide) (by decide)) with h1 | ⟨e, he, -, hy, h43, h1⟩
  · exact sp_0 h1 h
  · obtain ⟨v, hv, rfl⟩ := rg_n (lo := 1) (hi := 100) (by decide) (by decide) hy
    exact sp_om h1 hn (KA_corr (by omega) he (by omega) k2) k4 k5
theorem st_quote {w N : Nat} {c0 d0 : Int} {μ : MP} {ν : NC} {a : AS} {x1 x2 x3 x4 : Int32} (hw : 8200 < w) (hN : N + 1 ≤ 512) (h : KB N c0 d0 ((μ, ν), a)) : sp (N + 1) c0 d0 (s_quote w μ ν a x1 x2 x3 x4) := by
  obtain ⟨n, l0, l1, k1, k2, k3, k4, k5⟩ := id h
  have hn : sm8 (nb n 6) ≤ N + 1 := sm_nb (by decide) k1
  rcases o_quote (w := w) (x1 := x1) (x2 := x2) (x3 := x3) (x4 := x4) k3 (by omega) (fun v d K p _ hd hK h3 h4 _ _ hp => by
    obtain ⟨v3, hv3, rfl⟩ := rg_n (lo := 1) (hi := 100) (by decide) (by decide) h3
    obtain ⟨v4, hv4, rfl⟩ := rg_n (lo := 0) (hi := 200) (by decide) (by decide) h4
    exact (KA_quote (v := v) (by omega) hd (by omega) (by omega) hK hp k2).2) with h1 | ⟨v, d, K, p, μ', ν', -, hd, hK, h3, h4, -, -, hp, e, hR, -, hb, hc⟩
  · exact sp_oq h1 h
  · obtain ⟨v3, hv3, rfl⟩ := rg_n (lo := 1) (hi := 100) (by decide) (by decide) h3
    obtain ⟨v4, hv4, rfl⟩ := rg_n (lo := 0) (hi := 200) (by decide) (by decide) h4
    exact ⟨_, e, nb n 6, l0, l1, hn, (KA_quote (v := v) (by omega) hd (by omega) (by omega) hK hp k2).1, hR, by show bal ν' _ ≤ _; rw [hb]; exact k4, hc _ _ k5⟩
theorem st_endDay {w N : Nat} {c0 d0 : Int} {μ : MP} {ν : NC} {a : AS} (h : KB N c0 d0 ((μ, ν), a)) : sp (N + 1) c0 d0 (s_endDay w μ ν a) := by
  obtain ⟨n, l0, l1, k1, k2, k3, k4, k5⟩ := h
  obtain ⟨μ', e, hR⟩ := o_endDay (w := w) k3
  exact ⟨_, e, n, l0, l1, Nat.le_succ_of_le k1, KA_day k2, hR, k4, k5⟩
/-- a step of the law -/
theorem st_law {w N : Nat} {c0 d0 : Int} {μ : MP} {ν : NC} {a : AS} {o x1 x2 x3 x4 : Int32} (hw : 8200 < w) (hN : N + 1 ≤ 512) (h : KB N c0 d0 ((μ, ν), a)) : sp (N + 1) c0 d0 (lstep w μ ν a o x1 x2 x3 x4) := by
  obtain ⟨n, l0, l1, k1, k2, k3, k4, k5⟩ := id h
  obtain ⟨-, -, -, ⟨E, R, m⟩, -⟩ := id k2
  unfold lstep
  by_cases c0 : o &&& 63 = 0
  · rw [if_pos c0]; exact st_connect hw hN h
  rw [if_neg c0]
  by_cases c1 : o &&& 63 = 1
  · rw [if_pos c1]; exact st_cut hw h
  rw [if_neg c1]
  by_cases c2 : o &&& 63 = 2
  · rw [if_pos c2]; exact st_come hw hN h
  rw [if_neg c2]
  by_cases c3 : o &&& 63 = 3
  · rw [if_pos c3]; exact st_garble hN h
  rw [if_neg c3]
  by_cases c4 : o &&& 63 = 4
  · rw [if_pos c4]; exact st_pass hw hN h
  rw [if_neg c4]
  by_cases c5 : o &&& 63 = 5
  · rw [if_pos c5]; exact sp_oq (o_isUp k3) h
  rw [if_neg c5]
  by_cases c6 : o &&& 63 = 6
  · rw [if_pos c6]; exact sp_oq (o_isOn k3) h
  rw [if_neg c6]
  by_cases c7 : o &&& 63 = 7
  · rw [if_pos c7]; exact sp_oq (o_onWay k3) h
  rw [if_neg c7]
  by_cases c8 : o &&& 63 = 8
  · rw [if_pos c8]; exact sp_oq (o_sent k3) h
  rw [if_neg c8]
  by_cases c9 : o &&& 63 = 9
  · rw [if_pos c9]; exact sp_oq (o_expected k3) h
  rw [if_neg c9]
  by_cases c10 : o &&& 63 = 10
  · rw [if_pos c10]; exact sp_oq (o_held k3) h
  rw [if_neg c10]
  by_cases c11 : o &&& 63 = 11
  · rw [if_pos c11]; exact sp_oq (o_fields k3) h
  rw [if_neg c11]
  by_cases c12 : o &&& 63 = 12
  · rw [if_pos c12]; exact sp_oq (o_tagAt k3) h
  rw [if_neg c12]
  by_cases c13 : o &&& 63 = 13
  · rw [if_pos c13]; exact sp_oq (o_valueAt k3 (MI_vOk m) (by omega)) h
  rw [if_neg c13]
  by_cases c14 : o &&& 63 = 14
  · rw [if_pos c14]; exact st_order hN h
  rw [if_neg c14]
  by_cases c15 : o &&& 63 = 15
  · rw [if_pos c15]; exact st_cancel hN h
  rw [if_neg c15]
  by_cases c16 : o &&& 63 = 16
  · rw [if_pos c16]; exact st_replace hN h
  rw [if_neg c16]
  by_cases c17 : o &&& 63 = 17
  · rw [if_pos c17]; exact sp_oq (o_stateOf k3) h
  rw [if_neg c17]
  by_cases c18 : o &&& 63 = 18
  · rw [if_pos c18]; exact sp_oq (o_isLeftOut k3) h
  rw [if_neg c18]
  by_cases c19 : o &&& 63 = 19
  · rw [if_pos c19]; exact sp_oq (o_underWay k3) h
  rw [if_neg c19]
  by_cases c20 : o &&& 63 = 20
  · rw [if_pos c20]; exact st_quote hw hN h
  rw [if_neg c20]
  by_cases c21 : o &&& 63 = 21
  · rw [if_pos c21]; exact sp_oq (o_quoted k3) h
  rw [if_neg c21]
  by_cases c22 : o &&& 63 = 22
  · rw [if_pos c22]; exact st_bust hN h
  rw [if_neg c22]
  by_cases c23 : o &&& 63 = 23
  · rw [if_pos c23]; exact st_correct hN h
  rw [if_neg c23]
  by_cases c24 : o &&& 63 = 24
  · rw [if_pos c24]; exact sp_oq (o_executions k3) h
  rw [if_neg c24]
  by_cases c25 : o &&& 63 = 25
  · rw [if_pos c25]; exact st_endDay h
  rw [if_neg c25]
  by_cases c26 : o &&& 63 = 26
  · rw [if_pos c26]; exact sp_oq (o_orders k3) h
  rw [if_neg c26]
  by_cases c27 : o &&& 63 = 27
  · rw [if_pos c27]; exact sp_oq (o_left k3) h
  rw [if_neg c27]
  by_cases c28 : o &&& 63 = 28
  · rw [if_pos c28]; exact sp_oq (o_done k3) h
  rw [if_neg c28]
  by_cases c29 : o &&& 63 = 29
  · rw [if_pos c29]; exact sp_oq (o_doneByLog k3 (MI_logOk m) (by omega)) h
  rw [if_neg c29]
  by_cases c30 : o &&& 63 = 30
  · rw [if_pos c30]; exact sp_oq (o_out k3) h
  rw [if_neg c30]
  by_cases c31 : o &&& 63 = 31
  · rw [if_pos c31]; exact sp_oq (o_venues k3 (by omega)) h
  rw [if_neg c31]
  by_cases c32 : o &&& 63 = 32
  · rw [if_pos c32]; exact sp_oq (o_total k3 (by omega)) h
  rw [if_neg c32]
  by_cases c33 : o &&& 63 = 33
  · rw [if_pos c33]; exact sp_oq (o_agree k3 (by omega)) h
  rw [if_neg c33]
  exact ⟨((μ, ν), a), rfl, n, l0, l1, Nat.le_succ_of_le k1, k2, k3, k4, k5⟩
