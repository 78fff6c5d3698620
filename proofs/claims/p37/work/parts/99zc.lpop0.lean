/-! What comes: a side's scalars; the queue is moved up. -/
variable {Hh Hg : Nat → Nat}
theorem L1_o2 {r a0 b3 b4 b5 b7 b8 b9 b10 b20 : Nat → Int32} {s : Nat} {v : Int32} (hs : s < 2) (h : L1 r a0 b3 b4 b5 b7 b8 b9 b10 b20) : L1 (up1 r (2 + s) v) a0 (up1 b3 s v) b4 b5 b7 b8 b9 b10 b20 := by
  obtain ⟨x1, x2, x3, x4, x5, x6, h⟩ := h
  have n : ∀ i, i ≠ 2 + s → up1 r (2 + s) v i = r i := fun i h1 => up1_n _ _ h1
  refine ⟨(n 0 (by omega)).trans x1, (n 1 (by omega)).trans x2, (n 18 (by omega)).trans x3, (n 19 (by omega)).trans x4, (n 20 (by omega)).trans x5, (n 21 (by omega)).trans x6, fun t ht => ?_⟩
  obtain ⟨y1, y2, y3, y4, y5, y6, y7, y8⟩ := h t ht
  refine ⟨?_, (n _ (by omega)).trans y2, (n _ (by omega)).trans y3, (n _ (by omega)).trans y4, (n _ (by omega)).trans y5, (n _ (by omega)).trans y6, (n _ (by omega)).trans y7, (n _ (by omega)).trans y8⟩
  by_cases e : t = s
  · subst e; rw [up1_s, up1_s]
  · rw [n _ (by omega), up1_n _ _ e]; exact y1
theorem L1_o8 {r a0 b3 b4 b5 b7 b8 b9 b10 b20 : Nat → Int32} {s : Nat} {v : Int32} (hs : s < 2) (h : L1 r a0 b3 b4 b5 b7 b8 b9 b10 b20) : L1 (up1 r (8 + s) v) a0 b3 b4 b5 (up1 b7 s v) b8 b9 b10 b20 := by
  obtain ⟨x1, x2, x3, x4, x5, x6, h⟩ := h
  have n : ∀ i, i ≠ 8 + s → up1 r (8 + s) v i = r i := fun i h1 => up1_n _ _ h1
  refine ⟨(n 0 (by omega)).trans x1, (n 1 (by omega)).trans x2, (n 18 (by omega)).trans x3, (n 19 (by omega)).trans x4, (n 20 (by omega)).trans x5, (n 21 (by omega)).trans x6, fun t ht => ?_⟩
  obtain ⟨y1, y2, y3, y4, y5, y6, y7, y8⟩ := h t ht
  refine ⟨(n _ (by omega)).trans y1, (n _ (by omega)).trans y2, (n _ (by omega)).trans y3, ?_, (n _ (by omega)).trans y5, (n _ (by omega)).trans y6, (n _ (by omega)).trans y7, (n _ (by omega)).trans y8⟩
  by_cases e : t = s
  · subst e; rw [up1_s, up1_s]
  · rw [n _ (by omega), up1_n _ _ e]; exact y4
theorem L1_o10 {r a0 b3 b4 b5 b7 b8 b9 b10 b20 : Nat → Int32} {s : Nat} {v : Int32} (hs : s < 2) (h : L1 r a0 b3 b4 b5 b7 b8 b9 b10 b20) : L1 (up1 r (10 + s) v) a0 b3 b4 b5 b7 (up1 b8 s v) b9 b10 b20 := by
  obtain ⟨x1, x2, x3, x4, x5, x6, h⟩ := h
  have n : ∀ i, i ≠ 10 + s → up1 r (10 + s) v i = r i := fun i h1 => up1_n _ _ h1
  refine ⟨(n 0 (by omega)).trans x1, (n 1 (by omega)).trans x2, (n 18 (by omega)).trans x3, (n 19 (by omega)).trans x4, (n 20 (by omega)).trans x5, (n 21 (by omega)).trans x6, fun t ht => ?_⟩
  obtain ⟨y1, y2, y3, y4, y5, y6, y7, y8⟩ := h t ht
  refine ⟨(n _ (by omega)).trans y1, (n _ (by omega)).trans y2, (n _ (by omega)).trans y3, (n _ (by omega)).trans y4, ?_, (n _ (by omega)).trans y6, (n _ (by omega)).trans y7, (n _ (by omega)).trans y8⟩
  by_cases e : t = s
  · subst e; rw [up1_s, up1_s]
  · rw [n _ (by omega), up1_n _ _ e]; exact y5
theorem L1_o14 {r a0 b3 b4 b5 b7 b8 b9 b10 b20 : Nat → Int32} {s : Nat} {v : Int32} (hs : s < 2) (h : L1 r a0 b3 b4 b5 b7 b8 b9 b10 b20) : L1 (up1 r (14 + s) v) a0 b3 b4 b5 b7 b8 b9 (up1 b10 s v) b20 := by
  obtain ⟨x1, x2, x3, x4, x5, x6, h⟩ := h
  have n : ∀ i, i ≠ 14 + s → up1 r (14 + s) v i = r i := fun i h1 => up1_n _ _ h1
  refine ⟨(n 0 (by omega)).trans x1, (n 1 (by omega)).trans x2, (n 18 (by omega)).trans x3, (n 19 (by omega)).trans x4, (n 20 (by omega)).trans x5, (n 21 (by omega)).trans x6, fun t ht => ?_⟩
  obtain ⟨y1, y2, y3, y4, y5, y6, y7, y8⟩ := h t ht
  refine ⟨(n _ (by omega)).trans y1, (n _ (by omega)).trans y2, (n _ (by omega)).trans y3, (n _ (by omega)).trans y4, (n _ (by omega)).trans y5, (n _ (by omega)).trans y6, ?_, (n _ (by omega)).trans y8⟩
  by_cases e : t = s
  · subst e; rw [up1_s, up1_s]
  · rw [n _ (by omega), up1_n _ _ e]; exact y7
theorem L1_o16 {r a0 b3 b4 b5 b7 b8 b9 b10 b20 : Nat → Int32} {s : Nat} {v : Int32} (hs : s < 2) (h : L1 r a0 b3 b4 b5 b7 b8 b9 b10 b20) : L1 (up1 r (16 + s) v) a0 b3 b4 b5 b7 b8 b9 b10 (up1 b20 s v) := by
  obtain ⟨x1, x2, x3, x4, x5, x6, h⟩ := h
  have n : ∀ i, i ≠ 16 + s → up1 r (16 + s) v i = r i := fun i h1 => up1_n _ _ h1
  refine ⟨(n 0 (by omega)).trans x1, (n 1 (by omega)).trans x2, (n 18 (by omega)).trans x3, (n 19 (by omega)).trans x4, (n 20 (by omega)).trans x5, (n 21 (by omega)).trans x6, fun t ht => ?_⟩
  obtain ⟨y1, y2, y3, y4, y5, y6, y7, y8⟩ := h t ht
  refine ⟨(n _ (by omega)).trans y1, (n _ (by omega)).trans y2, (n _ (by omega)).trans y3, (n _ (by omega)).trans y4, (n _ (by omega)).trans y5, (n _ (by omega)).trans y6, (n _ (by omega)).trans y7, ?_⟩
  by_cases e : t = s
  · subst e; rw [up1_s, up1_s]
  · rw [n _ (by omega), up1_n _ _ e]; exact y8
theorem lr_on {b a : AS} {s : Nat} {v : Int32} (hs : s < 2) (h : LR Hh b a) : LR Hh (up2 b 1 (2 + s) v) (up2 a 3 s v) := by
  obtain ⟨l0, l1, l2, l3, l4, l5, l6, l7, l8⟩ := h
  have er : ∀ k, k ≠ 1 → up2 b 1 (2 + s) v k = b k := fun k hk => up2_k _ _ hk
  refine ⟨l0, L1_o2 hs l1, fun t ht => ?_, fun t ht => ?_, fun t ht => ?_, l5, l6, l7, l8⟩
  · rw [er _ (by omega)]; exact l2 t ht
  · rw [er _ (by omega)]; exact l3 t ht
  · rw [er _ (by omega)]; exact l4 t ht
theorem lr_ask {b a : AS} {s : Nat} {v : Int32} (hs : s < 2) (h : LR Hh b a) : LR Hh (up2 b 1 (8 + s) v) (up2 a 7 s v) := by
  obtain ⟨l0, l1, l2, l3, l4, l5, l6, l7, l8⟩ := h
  have er : ∀ k, k ≠ 1 → up2 b 1 (8 + s) v k = b k := fun k hk => up2_k _ _ hk
  refine ⟨l0, L1_o8 hs l1, fun t ht => ?_, fun t ht => ?_, fun t ht => ?_, l5, l6, l7, l8⟩
  · rw [er _ (by omega)]; exact l2 t ht
  · rw [er _ (by omega)]; exact l3 t ht
  · rw [er _ (by omega)]; exact l4 t ht
theorem lr_when {b a : AS} {s : Nat} {v : Int32} (hs : s < 2) (h : LR Hh b a) : LR Hh (up2 b 1 (10 + s) v) (up2 a 8 s v) := by
  obtain ⟨l0, l1, l2, l3, l4, l5, l6, l7, l8⟩ := h
  have er : ∀ k, k ≠ 1 → up2 b 1 (10 + s) v k = b k := fun k hk => up2_k _ _ hk
  refine ⟨l0, L1_o10 hs l1, fun t ht => ?_, fun t ht => ?_, fun t ht => ?_, l5, l6, l7, l8⟩
  · rw [er _ (by omega)]; exact l2 t ht
  · rw [er _ (by omega)]; exact l3 t ht
  · rw [er _ (by omega)]; exact l4 t ht
theorem lr_hrd {b a : AS} {s : Nat} {v : Int32} (hs : s < 2) (h : LR Hh b a) : LR Hh (up2 b 1 (14 + s) v) (up2 a 10 s v) := by
  obtain ⟨l0, l1, l2, l3, l4, l5, l6, l7, l8⟩ := h
  have er : ∀ k, k ≠ 1 → up2 b 1 (14 + s) v k = b k := fun k hk => up2_k _ _ hk
  refine ⟨l0, L1_o14 hs l1, fun t ht => ?_, fun t ht => ?_, fun t ht => ?_, l5, l6, l7, l8⟩
  · rw [er _ (by omega)]; exact l2 t ht
  · rw [er _ (by omega)]; exact l3 t ht
  · rw [er _ (by omega)]; exact l4 t ht
/-- the queue moved up -/
def shQ (q : Nat → Nat) (x : Nat) : Nat → Nat := fun k => if k < x then q (k + 1) else q k
noncomputable def b_oneT (w : Nat) (b : AS) (x14 x16 : Int32) : Option (AS × Int32) := if x14 = (0 : Int32) then (b_L_one_96 w b x14 x16 (x16 &&& (63 : Int32)) ((x16 >>> ((6 : Int32) &&& 31)) &&& (127 : Int32)) 5) else (b_L_one_96 w b x14 x16 (x16 &&& (63 : Int32)) ((x16 >>> ((6 : Int32) &&& 31)) &&& (127 : Int32)) 4)
theorem sh_l {w s C : Nat} {its : Int32} {q : Nat → Nat} (hs : s < 2) (hC : C < 250) : ∀ (d x m : Nat) (b : AS), x + d = C → d < m → b 1 (16 + s) = nI C → wyL (b (2 + s)) (shQ q x) → ∃ b', l_L_one_34 w m b (nI s) (2 + s) its (nI x) = b_oneT w b' (nI s) its ∧ (∀ j, j ≠ 2 + s → b' j = b j) ∧ wyL (b' (2 + s)) (shQ q C) := by
  have e16 : (16 : Int32) + nI s = nI (16 + s) := nI_add 16 s
  have i22 : ixB (nI (16 + s)) 22 = true := ixn (by omega) (by decide)
  have c16 : (nI (16 + s)).toNatClampNeg = 16 + s := nI_clamp (by omega)
  have hj : lnB (2 + s) 64 = true := by rcases (show s = 0 ∨ s = 1 by omega) with rfl | rfl <;> decide
  intro d
  induction d with
  | zero =>
    intro x m b h1 h2 h3 h4
    obtain ⟨m, rfl⟩ : ∃ m', m = m' + 1 := ⟨m - 1, by omega⟩
    have ex : x = C := by omega
    subst ex
    refine ⟨b, ?_, fun _ _ => rfl, h4⟩
    show b_L_one_34 _ w b _ _ _ _ = _
    unfold b_L_one_34 b_oneT
    rw [e16, i22, c16, h3]
    simp only [cond_true, yl]
    rw [if_pos ((nI_leI (by omega) (by omega)).mpr (Nat.le_refl _))]
  | succ d ih =>
    intro x m b h1 h2 h3 h4
    obtain ⟨m, rfl⟩ : ∃ m', m = m' + 1 := ⟨m - 1, by omega⟩
    have g1 := f_get (w := w) hj h4 (show x + 1 < 256 by omega)
    obtain ⟨V, g2, g3⟩ := f_set (w := w) hj h4 (show x < 256 by omega) (show shQ q x (x + 1) < 16384 from h4.1 _)
    have eq : up1 (shQ q x) x (shQ q x (x + 1)) = shQ q (x + 1) := by
      funext k
      unfold up1 shQ
      by_cases c : k = x
      · subst c
        rw [if_pos rfl, if_neg (by omega), if_pos (by omega)]
      · rw [if_neg c]
        by_cases c2 : k < x
        · rw [if_pos c2, if_pos (by omega)]
        · rw [if_neg c2, if_neg (by omega)]
    rw [eq] at g3
    have w1 : wLg b (2 + s) (x / 4) V 1 (16 + s) = nI C := (wLg_n _ _ _ _ (by omega) _).trans h3
    obtain ⟨b', f1, f2, f3⟩ := ih (x + 1) m (wLg b (2 + s) (x / 4) V) (by omega) (by omega) w1 g3
    refine ⟨b', ?_, fun j hj => (f2 j hj).trans (wLg_k hj), f3⟩
    rw [← f1]
    show b_L_one_34 (l_L_one_34 w m) w b _ _ _ _ = _
    unfold b_L_one_34
    rw [e16, i22, c16, h3]
    simp only [cond_true, yl]
    rw [if_neg (fun e => by have := (nI_leI (by omega) (by omega)).mp e; omega), show nI x + (1 : Int32) = nI (x + 1) from nI_add x 1, g1, Option.bind_some, g2, Option.bind_some]
theorem L2_pop {r' : Nat → Int32} {x19 x20 : Int32} {b21 : Nat → Int32} {q : Nat → Nat} {s c H : Nat} (h1 : wyL r' (shQ q (c - 1))) (e19 : x19 = nI H) (hH : H < 65536) (e20 : x20 = nI c) (hc1 : 1 ≤ c) (hc : c ≤ 240) (hk : ∀ k, k < c → ∃ x f g : Nat, x < 64 ∧ f ≤ 64 ∧ g < 2 ∧ q k = x + 64 * f + 8192 * g ∧ b21 (65536 * s + (H + k) % 65536) = nI (2 * (8192 * x + f) + g)) : L2 r' (nI ((H + 1) % 65536)) (nI (c - 1)) b21 s := by
  refine ⟨shQ q (c - 1), c - 1, (H + 1) % 65536, h1, rfl, Nat.mod_lt _ (by decide), rfl, by omega, fun k hk' => ?_⟩
  obtain ⟨x, f, g, g1, g2, g3, g4, g5⟩ := hk (k + 1) (by omega)
  refine ⟨x, f, g, g1, g2, g3, ?_, ?_⟩
  · unfold shQ; rw [if_pos hk']; exact g4
  · rw [show ((H + 1) % 65536 + k) % 65536 = (H + (k + 1)) % 65536 by omega]
    exact g5
theorem lr_pop {b b' a : AS} {q : Nat → Nat} {s c H : Nat} (hs : s < 2) (h : LR Hh b a) (h1 : wyL (b' (2 + s)) (shQ q (c - 1))) (e19 : a 19 s = nI H) (hH : H < 65536) (e20 : a 20 s = nI c) (hc1 : 1 ≤ c) (hc : c ≤ 240) (hk : ∀ k, k < c → ∃ x f g : Nat, x < 64 ∧ f ≤ 64 ∧ g < 2 ∧ q k = x + 64 * f + 8192 * g ∧ a 21 (65536 * s + (H + k) % 65536) = nI (2 * (8192 * x + f) + g)) (hb : ∀ j, j ≠ 2 + s → b' j = up2 b 1 (16 + s) (nI (c - 1)) j) : LR Hh b' (gPop a s) := by
  obtain ⟨l0, l1, l2, l3, l4, l5, l6, l7, l8⟩ := h
  have eP : gPop a s = up2 (up2 a 19 s (nI ((H + 1) % 65536))) 20 s (nI (c - 1)) := by
    unfold gPop
    rw [e19, e20, tnI (show H < 2 ^ 31 by omega), tnI (show c < 2 ^ 31 by omega)]
  have er : ∀ j, j ≠ 1 → j ≠ 2 + s → b' j = b j := fun j j1 j2 => (hb j j2).trans (up2_k _ _ j1)
  have e1 : b' 1 = up1 (b 1) (16 + s) (nI (c - 1)) := (hb 1 (by omega)).trans rfl
  rw [eP]
  unfold LR
  rw [e1, er 8 (by decide) (by omega), er 9 (by decide) (by omega), er 10 (by decide) (by omega), er 11 (by decide) (by omega), er 12 (by decide) (by omega), er 13 (by decide) (by omega), er 14 (by decide) (by omega)]
  refine ⟨l0, L1_o16 hs l1, fun t ht => ?_, fun t ht => ?_, fun t ht => ?_, l5, l6, l7, l8⟩
  · show L2 (b' (2 + t)) (up1 (a 19) s (nI ((H + 1) % 65536)) t) (up1 (a 20) s (nI (c - 1)) t) (a 21) t
    by_cases e : t = s
    · subst e
      rw [up1_s, up1_s]
      exact L2_pop h1 e19 hH e20 hc1 hc hk
    · rw [up1_n _ _ e, up1_n _ _ e, er _ (by omega) (by omega)]
      exact l2 t ht
  · rw [er _ (by omega) (by omega)]; exact l3 t ht
  · rw [er _ (by omega) (by omega)]; exact l4 t ht
