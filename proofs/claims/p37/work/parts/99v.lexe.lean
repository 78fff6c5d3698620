/-! What the trader sets: executions' words, books. -/
variable {Hh : Nat → Nat}
theorem L7_put {r r' : Nat → Int32} {x35 : Int32} {b36 b37 b38 b39 b40 b41 b42 b43 c36 c37 c38 c39 c40 c41 c42 c43 : Nat → Int32} {e o v dy sz mp hp tp kn hb tb : Nat} (h : L7 r x35 b36 b37 b38 b39 b40 b41 b42 b43) (hr : ∀ i, rwL r' i = if i = e then nL (ecode o v dy sz mp hp tp kn hb tb) else rwL r i) (hn : eRow c36 c37 c38 c39 c40 c41 c42 c43 e o v dy sz mp hp tp kn hb tb) (ho : ∀ i, i < 60 → i ≠ e → c36 i = b36 i ∧ c37 i = b37 i ∧ c38 i = b38 i ∧ c39 i = b39 i ∧ c40 i = b40 i ∧ c41 (100 + i) = b41 (100 + i) ∧ c41 i = b41 i ∧ c42 i = b42 i ∧ c43 (100 + i) = b43 (100 + i) ∧ c43 i = b43 i) : L7 r' x35 c36 c37 c38 c39 c40 c41 c42 c43 := by
  obtain ⟨X, eX, hX, -⟩ := id h
  have := L7_set (X' := X) h hX (fun i hi _ => by rw [eX, tnI (by omega)]; exact hi) hr hn (fun i hi hne => ho i (by rw [eX, tnI (by omega)] at hi; omega) hne)
  rw [eX]
  exact this
theorem ec_tp {o v dy sz mp hp tp kn hb tb y : Nat} (h1 : o < 10) (h2 : v < 3) (h3 : dy < 256) (h4 : sz < 128) (h5 : mp < 128) (h6 : hp < 128) (h7 : tp < 128) (h8 : kn < 2) (h9 : hb < 2) (h10 : tb < 2) (hy : y < 128) : (nL (ecode o v dy sz mp hp tp kn hb tb) &&& (-4363686772737 : Int64)) ||| (Int32.toInt64 (nI y) <<< (Int32.toInt64 (35 : Int32) &&& 63)) = nL (ecode o v dy sz mp hp y kn hb tb) := by
  have hC := ec_lt h1 h2 h3 h4 h5 h6 h7 h8 h9 h10
  have hm : (-4363686772737 : Int64) = (nL (2 ^ 7 - 1) <<< nL 35) ^^^ (-1) := by decide
  have d1 : ecode o v dy sz mp hp tp kn hb tb / 2 ^ (35 + 7) = kn + 2 * hb + 4 * tb := by unfold ecode; omega
  have d2 : ecode o v dy sz mp hp tp kn hb tb % 2 ^ 35 = o + 16 * v + 64 * dy + 16384 * sz + 2097152 * mp + 268435456 * hp := by unfold ecode; omega
  rw [hm, nL_clr _ 35 7 hC (by decide) (by decide), nI_L _ (by omega), show (35 : Int32) = nI 35 from rfl, L_sh _ _ (by decide), d1, d2, nL_ins (kn + 2 * hb + 4 * tb) _ y 35 7 (by omega) (by omega) (by omega)]
  congr 1
  unfold ecode
  omega
theorem ec_hp {o v dy sz mp hp tp kn hb tb y : Nat} (h1 : o < 10) (h2 : v < 3) (h3 : dy < 256) (h4 : sz < 128) (h5 : mp < 128) (h6 : hp < 128) (h7 : tp < 128) (h8 : kn < 2) (h9 : hb < 2) (h10 : tb < 2) (hy : y < 128) : (nL (ecode o v dy sz mp hp tp kn hb tb) &&& (-34091302913 : Int64)) ||| (Int32.toInt64 (nI y) <<< (Int32.toInt64 (28 : Int32) &&& 63)) = nL (ecode o v dy sz mp y tp kn hb tb) := by
  have hC := ec_lt h1 h2 h3 h4 h5 h6 h7 h8 h9 h10
  have hm : (-34091302913 : Int64) = (nL (2 ^ 7 - 1) <<< nL 28) ^^^ (-1) := by decide
  have d1 : ecode o v dy sz mp hp tp kn hb tb / 2 ^ (28 + 7) = tp + 128 * kn + 256 * hb + 512 * tb := by unfold ecode; omega
  have d2 : ecode o v dy sz mp hp tp kn hb tb % 2 ^ 28 = o + 16 * v + 64 * dy + 16384 * sz + 2097152 * mp := by unfold ecode; omega
  rw [hm, nL_clr _ 28 7 hC (by decide) (by decide), nI_L _ (by omega), show (28 : Int32) = nI 28 from rfl, L_sh _ _ (by decide), d1, d2, nL_ins (tp + 128 * kn + 256 * hb + 512 * tb) _ y 28 7 (by omega) (by omega) (by omega)]
  congr 1
  unfold ecode
  omega
theorem ec_kn {o v dy sz mp hp tp kn hb tb : Nat} (h1 : o < 10) (h2 : v < 3) (h3 : dy < 256) (h4 : sz < 128) (h5 : mp < 128) (h6 : hp < 128) (h7 : tp < 128) (h8 : kn < 2) (h9 : hb < 2) (h10 : tb < 2) : nL (ecode o v dy sz mp hp tp kn hb tb) ||| (4398046511104 : Int64) = nL (ecode o v dy sz mp hp tp 1 hb tb) := by
  have e : nL (ecode o v dy sz mp hp tp 0 hb tb) ||| nL (1 * 2 ^ 42) = nL (ecode o v dy sz mp hp tp 1 hb tb) := by
    have := nL_ins (hb + 2 * tb) (o + 16 * v + 64 * dy + 16384 * sz + 2097152 * mp + 268435456 * hp + 34359738368 * tp) 1 42 1 (by omega) (by decide) (by omega)
    rw [show ecode o v dy sz mp hp tp 0 hb tb = 2 ^ (42 + 1) * (hb + 2 * tb) + (o + 16 * v + 64 * dy + 16384 * sz + 2097152 * mp + 268435456 * hp + 34359738368 * tp) from by unfold ecode; omega, this]
    congr 1
    unfold ecode
    omega
  have e16 : (4398046511104 : Int64) = nL (1 * 2 ^ 42) := rfl
  rcases (show kn = 0 ∨ kn = 1 by omega) with rfl | rfl
  · rw [e16, e]
  · rw [e16, ← e, Int64.or_assoc, Int64.or_self]
theorem ec_hb {o v dy sz mp hp tp kn hb tb : Nat} (h1 : o < 10) (h2 : v < 3) (h3 : dy < 256) (h4 : sz < 128) (h5 : mp < 128) (h6 : hp < 128) (h7 : tp < 128) (h8 : kn < 2) (h9 : hb < 2) (h10 : tb < 2) : nL (ecode o v dy sz mp hp tp kn hb tb) ||| (8796093022208 : Int64) = nL (ecode o v dy sz mp hp tp kn 1 tb) := by
  have e : nL (ecode o v dy sz mp hp tp kn 0 tb) ||| nL (1 * 2 ^ 43) = nL (ecode o v dy sz mp hp tp kn 1 tb) := by
    have := nL_ins tb (o + 16 * v + 64 * dy + 16384 * sz + 2097152 * mp + 268435456 * hp + 34359738368 * tp + 4398046511104 * kn) 1 43 1 (by omega) (by decide) (by omega)
    rw [show ecode o v dy sz mp hp tp kn 0 tb = 2 ^ (43 + 1) * tb + (o + 16 * v + 64 * dy + 16384 * sz + 2097152 * mp + 268435456 * hp + 34359738368 * tp + 4398046511104 * kn) from by unfold ecode; omega, this]
    congr 1
    unfold ecode
    omega
  have e16 : (8796093022208 : Int64) = nL (1 * 2 ^ 43) := rfl
  rcases (show hb = 0 ∨ hb = 1 by omega) with rfl | rfl
  · rw [e16, e]
  · rw [e16, ← e, Int64.or_assoc, Int64.or_self]
theorem ec_tb {o v dy sz mp hp tp kn hb tb : Nat} (h1 : o < 10) (h2 : v < 3) (h3 : dy < 256) (h4 : sz < 128) (h5 : mp < 128) (h6 : hp < 128) (h7 : tp < 128) (h8 : kn < 2) (h9 : hb < 2) (h10 : tb < 2) : nL (ecode o v dy sz mp hp tp kn hb tb) ||| (17592186044416 : Int64) = nL (ecode o v dy sz mp hp tp kn hb 1) := by
  have e : nL (ecode o v dy sz mp hp tp kn hb 0) ||| nL (1 * 2 ^ 44) = nL (ecode o v dy sz mp hp tp kn hb 1) := by
    have := nL_ins 0 (o + 16 * v + 64 * dy + 16384 * sz + 2097152 * mp + 268435456 * hp + 34359738368 * tp + 4398046511104 * kn + 8796093022208 * hb) 1 44 1 (by omega) (by decide) (by omega)
    rw [show ecode o v dy sz mp hp tp kn hb 0 = 2 ^ (44 + 1) * 0 + (o + 16 * v + 64 * dy + 16384 * sz + 2097152 * mp + 268435456 * hp + 34359738368 * tp + 4398046511104 * kn + 8796093022208 * hb) from by unfold ecode; omega, this]
    congr 1
    unfold ecode
    omega
  have e16 : (17592186044416 : Int64) = nL (1 * 2 ^ 44) := rfl
  rcases (show tb = 0 ∨ tb = 1 by omega) with rfl | rfl
  · rw [e16, e]
  · rw [e16, ← e, Int64.or_assoc, Int64.or_self]
/-- an execution of the law's -/
abbrev eAt (b a : AS) (e o v dy sz mp hp tp kn hb tb : Nat) : Prop := eRow (a 36) (a 37) (a 38) (a 39) (a 40) (a 41) (a 42) (a 43) e o v dy sz mp hp tp kn hb tb ∧ lgA b 13 e = nL (ecode o v dy sz mp hp tp kn hb tb)
theorem LR_ex {b a : AS} {e : Nat} (h : LR Hh b a) (he : e < tn (a 0 35)) : e < 60 ∧ ∃ o v dy sz mp hp tp kn hb tb : Nat, eAt b a e o v dy sz mp hp tp kn hb tb := L7_at h.2.2.2.2.2.2.2.1 he
theorem lr_tp {b a : AS} {e o v dy sz mp hp tp kn hb tb y : Nat} (h : LR Hh b a) (he : e < 60) (hx : eAt b a e o v dy sz mp hp tp kn hb tb) (hy : y < 128) : LR Hh (wLg b 13 e (nL (ecode o v dy sz mp hp y kn hb tb))) (up2 a 41 e (nI y)) := by
  obtain ⟨l0, l1, l2, l3, l4, l5, l6, l7, l8⟩ := h
  obtain ⟨⟨⟨h1, h2, h3, h4, h5, h6, h7, h8, h9, h10⟩, x1, x2, x3, x4, x5, x6, x7, x8, x9, x10⟩, -⟩ := hx
  refine lr_m ⟨l0, l1, l2, l3, l4, l5, l6, l7, l8⟩ (fun k k1 k2 => wLg_k (by omega)) (fun k hk => up2_k _ _ (by omega)) l0 l1 l5 l6 ?_ l8
  exact L7_put l7 (fun i => rwL_w b 13 e _ i) ⟨⟨h1, h2, h3, h4, h5, h6, hy, h8, h9, h10⟩, x1, x2, x3, x4, x5, (up1_n _ _ (by omega)).trans x6, up1_s _ _ _, x8, x9, x10⟩ (fun i hi hne => ⟨rfl, rfl, rfl, rfl, rfl, up1_n _ _ (by omega), up1_n _ _ hne, rfl, rfl, rfl⟩)
theorem lr_hp {b a : AS} {e o v dy sz mp hp tp kn hb tb y : Nat} (h : LR Hh b a) (he : e < 60) (hx : eAt b a e o v dy sz mp hp tp kn hb tb) (hy : y < 128) : LR Hh (wLg b 13 e (nL (ecode o v dy sz mp y tp kn hb tb))) (up2 a 41 (100 + e) (nI y)) := by
  obtain ⟨l0, l1, l2, l3, l4, l5, l6, l7, l8⟩ := h
  obtain ⟨⟨⟨h1, h2, h3, h4, h5, h6, h7, h8, h9, h10⟩, x1, x2, x3, x4, x5, x6, x7, x8, x9, x10⟩, -⟩ := hx
  refine lr_m ⟨l0, l1, l2, l3, l4, l5, l6, l7, l8⟩ (fun k k1 k2 => wLg_k (by omega)) (fun k hk => up2_k _ _ (by omega)) l0 l1 l5 l6 ?_ l8
  exact L7_put l7 (fun i => rwL_w b 13 e _ i) ⟨⟨h1, h2, h3, h4, h5, hy, h7, h8, h9, h10⟩, x1, x2, x3, x4, x5, up1_s _ _ _, (up1_n _ _ (by omega)).trans x7, x8, x9, x10⟩ (fun i hi hne => ⟨rfl, rfl, rfl, rfl, rfl, up1_n _ _ (by omega), up1_n _ _ (by omega), rfl, rfl, rfl⟩)
theorem lr_kn {b a : AS} {e o v dy sz mp hp tp kn hb tb : Nat} (h : LR Hh b a) (he : e < 60) (hx : eAt b a e o v dy sz mp hp tp kn hb tb) : LR Hh (wLg b 13 e (nL (ecode o v dy sz mp hp mp 1 hb tb))) (up2 (up2 a 42 e (nI 1)) 41 e (a 40 e)) := by
  obtain ⟨l0, l1, l2, l3, l4, l5, l6, l7, l8⟩ := h
  obtain ⟨⟨⟨h1, h2, h3, h4, h5, h6, h7, h8, h9, h10⟩, x1, x2, x3, x4, x5, x6, x7, x8, x9, x10⟩, -⟩ := hx
  refine lr_m ⟨l0, l1, l2, l3, l4, l5, l6, l7, l8⟩ (fun k k1 k2 => wLg_k (by omega)) (fun k hk => by rw [up2_k _ _ (by omega), up2_k _ _ (by omega)]) l0 l1 l5 l6 ?_ l8
  exact L7_put l7 (fun i => rwL_w b 13 e _ i) ⟨⟨h1, h2, h3, h4, h5, h6, h5, by decide, h9, h10⟩, x1, x2, x3, x4, x5, (up1_n _ _ (by omega)).trans x6, (up1_s _ _ _).trans x5, up1_s _ _ _, x9, x10⟩ (fun i hi hne => ⟨rfl, rfl, rfl, rfl, rfl, up1_n _ _ (by omega), up1_n _ _ hne, up1_n _ _ hne, rfl, rfl⟩)
theorem lr_tb {b a : AS} {e o v dy sz mp hp tp kn hb tb : Nat} (h : LR Hh b a) (he : e < 60) (hx : eAt b a e o v dy sz mp hp tp kn hb tb) : LR Hh (wLg b 13 e (nL (ecode o v dy sz mp hp tp kn hb 1))) (up2 a 43 e (nI 1)) := by
  obtain ⟨l0, l1, l2, l3, l4, l5, l6, l7, l8⟩ := h
  obtain ⟨⟨⟨h1, h2, h3, h4, h5, h6, h7, h8, h9, h10⟩, x1, x2, x3, x4, x5, x6, x7, x8, x9, x10⟩, -⟩ := hx
  refine lr_m ⟨l0, l1, l2, l3, l4, l5, l6, l7, l8⟩ (fun k k1 k2 => wLg_k (by omega)) (fun k hk => up2_k _ _ (by omega)) l0 l1 l5 l6 ?_ l8
  exact L7_put l7 (fun i => rwL_w b 13 e _ i) ⟨⟨h1, h2, h3, h4, h5, h6, h7, h8, h9, by decide⟩, x1, x2, x3, x4, x5, x6, x7, x8, (up1_n _ _ (by omega)).trans x9, up1_s _ _ _⟩ (fun i hi hne => ⟨rfl, rfl, rfl, rfl, rfl, rfl, rfl, rfl, up1_n _ _ (by omega), up1_n _ _ hne⟩)
theorem lr_hb {b a : AS} {e o v dy sz mp hp tp kn hb tb : Nat} (h : LR Hh b a) (he : e < 60) (hx : eAt b a e o v dy sz mp hp tp kn hb tb) : LR Hh (wLg b 13 e (nL (ecode o v dy sz mp hp tp kn 1 tb))) (up2 a 43 (100 + e) (nI 1)) := by
  obtain ⟨l0, l1, l2, l3, l4, l5, l6, l7, l8⟩ := h
  obtain ⟨⟨⟨h1, h2, h3, h4, h5, h6, h7, h8, h9, h10⟩, x1, x2, x3, x4, x5, x6, x7, x8, x9, x10⟩, -⟩ := hx
  refine lr_m ⟨l0, l1, l2, l3, l4, l5, l6, l7, l8⟩ (fun k k1 k2 => wLg_k (by omega)) (fun k hk => up2_k _ _ (by omega)) l0 l1 l5 l6 ?_ l8
  exact L7_put l7 (fun i => rwL_w b 13 e _ i) ⟨⟨h1, h2, h3, h4, h5, h6, h7, h8, by decide, h10⟩, x1, x2, x3, x4, x5, x6, x7, x8, up1_s _ _ _, (up1_n _ _ (by omega)).trans x10⟩ (fun i hi hne => ⟨rfl, rfl, rfl, rfl, rfl, rfl, rfl, rfl, up1_n _ _ (by omega), up1_n _ _ (by omega)⟩)
/-- the trader's book -/
theorem lr_dn0 {b a : AS} {o : Nat} {v : Int32} (h : LR Hh b a) (ho : o < 10) : LR Hh (up2 b 10 o v) (up2 a 27 o v) := by
  have := lr_dn (z := 0) (v := v) h ho
  rwa [Nat.zero_add] at this
theorem lr_out0 {b a : AS} {o : Nat} {v : Int32} (h : LR Hh b a) (ho : o < 10) : LR Hh (up2 b 11 o v) (up2 a 28 o v) := by
  have := lr_out (z := 0) (v := v) h ho
  rwa [Nat.zero_add] at this
theorem L5_t {b a : AS} {o : Nat} (h : LR Hh b a) (ho : o < 10) : b 8 o = a 25 o ∧ b 9 o = a 26 o ∧ b 10 o = a 27 o ∧ b 11 o = a 28 o := by
  obtain ⟨h1, h2, h3, h4, -⟩ := h.2.2.2.2.2.1 0 o (by decide) ho
  rw [Nat.zero_add] at h1 h2 h3 h4
  exact ⟨h1, h2, h3, h4⟩
theorem lr_pz0 {b a : AS} {o P Z : Nat} (h : LR Hh b a) (ho : o < 10) (hP : P ≤ 100) (hZ : Z ≤ 100) : LR Hh (up2 (up2 b 8 o (nI P)) 9 o (nI Z)) (up2 (up2 a 25 o (nI P)) 26 o (nI Z)) := by
  obtain ⟨l0, l1, l2, l3, l4, l5, l6, l7, l8⟩ := h
  have := L5_z (z := 0) ho hZ (L5_p (z := 0) ho hP l5)
  rw [Nat.zero_add] at this
  exact lr_m ⟨l0, l1, l2, l3, l4, l5, l6, l7, l8⟩ (fun k k1 k2 => by rw [up2_k _ _ (by omega), up2_k _ _ (by omega)]) (fun k hk => by rw [up2_k _ _ (by omega), up2_k _ _ (by omega)]) l0 l1 this l6 l7 l8
theorem lr_know {b a : AS} {o : Nat} (h : LR Hh b a) (ho : o < tn (a 0 22)) : LR Hh (up2 b 12 o (b 12 o ||| (2 : Int32))) (up2 a 24 o (nI 1)) := by
  have h10 := LR_tnO h
  obtain ⟨l0, l1, l2, l3, l4, l5, l6, l7, l8⟩ := h
  obtain ⟨-, se, kn, ha, le, un, rk, ⟨⟨g1, g2, g3, g4, g5, g6⟩, r1, r2, r3, r4, r5, r6⟩, e⟩ := L6_at l6 ho
  refine lr_m ⟨l0, l1, l2, l3, l4, l5, l6, l7, l8⟩ (fun k k1 k2 => up2_k _ _ (by omega)) (fun k hk => up2_k _ _ (by omega)) l0 l1 l5 ?_ l7 l8
  refine L6_set (o := o) (se := se) (kn := 1) (ha := ha) (le := le) (un := un) (rk := rk) l6 ho ?_ ⟨⟨g1, by decide, g3, g4, g5, g6⟩, r1, up1_s _ _ _, (up1_n _ _ (by omega)).trans r3, r4, r5, r6⟩ (fun i hi hne => ⟨rfl, up1_n _ _ hne, up1_n _ _ (show 40 + i ≠ o by omega), rfl, rfl, rfl⟩)
  show up1 (b 12) o (b 12 o ||| (2 : Int32)) = _
  rw [e, kc_2 g1 g2 g3 g4 g5 g6]
/-- the word of requests under way -/
theorem lr_un {b a : AS} {o un un' : Nat} {v : Int32} (h : LR Hh b a) (ho : o < tn (a 0 22)) (e30 : a 30 o = nI un) (hu : un ≤ 5) (hu' : un' ≤ 5) (hv : ∀ C : Nat, b 12 o = nI C → C < 2 ^ 31 → C / 16 % 16 = un → v = nI (C + 16 * un' - 16 * un)) : LR Hh (up2 b 12 o v) (up2 a 30 o (nI un')) := by
  obtain ⟨l0, l1, l2, l3, l4, l5, l6, l7, l8⟩ := h
  obtain ⟨-, se, kn, ha, le, un2, rk, ⟨⟨g1, g2, g3, g4, g5, g6⟩, r1, r2, r3, r4, r5, r6⟩, e⟩ := L6_at l6 ho
  have eu : un2 = un := (nI_eq (by omega) (by omega)).mp (r5.symm.trans e30)
  subst eu
  refine lr_m ⟨l0, l1, l2, l3, l4, l5, l6, l7, l8⟩ (fun k k1 k2 => up2_k _ _ (by omega)) (fun k hk => up2_k _ _ (by omega)) l0 l1 l5 ?_ l7 l8
  refine L6_set (o := o) (se := se) (kn := kn) (ha := ha) (le := le) (un := un') (rk := rk) l6 ho ?_ ⟨⟨g1, g2, g3, g4, hu', g6⟩, r1, r2, r3, r4, up1_s _ _ _, r6⟩ (fun i hi hne => ⟨rfl, rfl, rfl, rfl, up1_n _ _ hne, rfl⟩)
  show up1 (b 12) o v = _
  rw [hv _ e (kc_lt g1 g2 g3 g4 g5 g6) (by unfold kcode; omega)]
  congr 2
  unfold kcode
  omega
