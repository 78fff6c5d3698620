/-! What an answer does to a message and to an order that is left out. -/
variable {Hh : Nat → Nat}
theorem I_ins (h l v k w : Nat) (hl : l < 2 ^ k) (hv : v < 2 ^ w) (hB : 2 ^ (k + w) * h + v * 2 ^ k + l < 2 ^ 32) : nI (2 ^ (k + w) * h + l) ||| nI (v * 2 ^ k) = nI (2 ^ (k + w) * h + v * 2 ^ k + l) := I_ext (by
  show BitVec.ofNat 32 _ ||| BitVec.ofNat 32 _ = BitVec.ofNat 32 _
  apply BitVec.eq_of_toNat_eq
  have hk : 2 ^ k ≤ 2 ^ (k + w) := Nat.pow_le_pow_right (by decide) (by omega)
  have e1 : 2 ^ (k + w) * h + l = 2 ^ (k + w) * h ||| l := Nat.two_pow_add_eq_or_of_lt (by omega) _
  have e2 : 2 ^ k * v + l = 2 ^ k * v ||| l := Nat.two_pow_add_eq_or_of_lt hl _
  have hvl : 2 ^ k * v + l < 2 ^ (k + w) := by
    have h1 : 2 ^ (k + w) = 2 ^ k * 2 ^ w := Nat.pow_add 2 k w
    have h2 : 2 ^ k * (v + 1) ≤ 2 ^ k * 2 ^ w := Nat.mul_le_mul_left _ hv
    rw [Nat.mul_add, Nat.mul_one] at h2
    omega
  have e3 : 2 ^ (k + w) * h + (2 ^ k * v + l) = 2 ^ (k + w) * h ||| (2 ^ k * v + l) := Nat.two_pow_add_eq_or_of_lt hvl _
  have c1 : v * 2 ^ k = 2 ^ k * v := Nat.mul_comm _ _
  have e : (2 ^ (k + w) * h + l) ||| (v * 2 ^ k) = 2 ^ (k + w) * h + v * 2 ^ k + l := by
    rw [c1, e1, Nat.or_assoc, Nat.or_comm l, ← e2, ← e3]
    omega
  rw [BitVec.toNat_or, BitVec.toNat_ofNat, BitVec.toNat_ofNat, BitVec.toNat_ofNat, Nat.mod_eq_of_lt (show 2 ^ (k + w) * h + l < 2 ^ 32 by omega), Nat.mod_eq_of_lt (show v * 2 ^ k < 2 ^ 32 by omega), Nat.mod_eq_of_lt hB, e])
theorem kc_2 {se kn ha le un rk : Nat} (h1 : se < 2) (h2 : kn < 2) (h3 : ha < 2) (h4 : le < 2) (h5 : un ≤ 5) (h6 : rk ≤ 10000) : nI (kcode se kn ha le un rk) ||| (2 : Int32) = nI (kcode se 1 ha le un rk) := by
  have e : nI (kcode se 0 ha le un rk) ||| nI (1 * 2 ^ 1) = nI (kcode se 1 ha le un rk) := by
    have := I_ins (ha + 2 * le + 4 * un + 64 * rk) se 1 1 1 (by omega) (by decide) (by omega)
    rw [show kcode se 0 ha le un rk = 2 ^ (1 + 1) * (ha + 2 * le + 4 * un + 64 * rk) + se from by unfold kcode; omega, this]
    congr 1
    unfold kcode
    omega
  have e1 : (2 : Int32) = nI (1 * 2 ^ 1) := rfl
  rcases (show kn = 0 ∨ kn = 1 by omega) with rfl | rfl
  · rw [e1, e]
  · rw [e1, ← e, Int32.or_assoc, Int32.or_self]
theorem kc_4 {se kn ha le un rk : Nat} (h1 : se < 2) (h2 : kn < 2) (h3 : ha < 2) (h4 : le < 2) (h5 : un ≤ 5) (h6 : rk ≤ 10000) : nI (kcode se kn ha le un rk) ||| (4 : Int32) = nI (kcode se kn 1 le un rk) := by
  have e : nI (kcode se kn 0 le un rk) ||| nI (1 * 2 ^ 2) = nI (kcode se kn 1 le un rk) := by
    have := I_ins (le + 2 * un + 32 * rk) (se + 2 * kn) 1 2 1 (by omega) (by decide) (by omega)
    rw [show kcode se kn 0 le un rk = 2 ^ (2 + 1) * (le + 2 * un + 32 * rk) + (se + 2 * kn) from by unfold kcode; omega, this]
    congr 1
    unfold kcode
    omega
  have e1 : (4 : Int32) = nI (1 * 2 ^ 2) := rfl
  rcases (show ha = 0 ∨ ha = 1 by omega) with rfl | rfl
  · rw [e1, e]
  · rw [e1, ← e, Int32.or_assoc, Int32.or_self]
theorem kc_8 {se kn ha le un rk : Nat} (h1 : se < 2) (h2 : kn < 2) (h3 : ha < 2) (h4 : le < 2) (h5 : un ≤ 5) (h6 : rk ≤ 10000) : nI (kcode se kn ha le un rk) ||| (8 : Int32) = nI (kcode se kn ha 1 un rk) := by
  have e : nI (kcode se kn ha 0 un rk) ||| nI (1 * 2 ^ 3) = nI (kcode se kn ha 1 un rk) := by
    have := I_ins (un + 16 * rk) (se + 2 * kn + 4 * ha) 1 3 1 (by omega) (by decide) (by omega)
    rw [show kcode se kn ha 0 un rk = 2 ^ (3 + 1) * (un + 16 * rk) + (se + 2 * kn + 4 * ha) from by unfold kcode; omega, this]
    congr 1
    unfold kcode
    omega
  have e1 : (8 : Int32) = nI (1 * 2 ^ 3) := rfl
  rcases (show le = 0 ∨ le = 1 by omega) with rfl | rfl
  · rw [e1, e]
  · rw [e1, ← e, Int32.or_assoc, Int32.or_self]
theorem lr_again {s n : Nat} {b a : AS} (h : LR Hh b a) (hs : s < 2) (hn1 : 1 ≤ n) (hn : n ≤ tn (a 4 s)) : LR Hh (wLg b (4 + s) n (lgA b (4 + s) n ||| (16 : Int64))) (up2 a 13 (8192 * s + n) (nI 1)) := by
  obtain ⟨l0, l1, l2, l3, l4, l5, l6, l7, l8⟩ := h
  have er : ∀ k, k ≠ 13 → up2 a 13 (8192 * s + n) (nI 1) k = a k := fun k hk => up2_k _ _ hk
  have e13 : up2 a 13 (8192 * s + n) (nI 1) 13 = up1 (a 13) (8192 * s + n) (nI 1) := by unfold up2; rw [up1_s]
  obtain ⟨N, e4, hN, hm⟩ := l3 s hs
  have hnN : n ≤ N := by rw [e4, tnI (by omega)] at hn; exact hn
  generalize up2 a 13 (8192 * s + n) (nI 1) = a' at *
  have br : ∀ k, k ≠ 4 + s → wLg b (4 + s) n (lgA b (4 + s) n ||| (16 : Int64)) k = b k := fun k hk => wLg_k hk
  have bL : ∀ i, rwL (wLg b (4 + s) n (lgA b (4 + s) n ||| (16 : Int64)) (4 + s)) i = if i = n then rwL (b (4 + s)) n ||| (16 : Int64) else rwL (b (4 + s)) i := fun i => by
    show lgA (wLg b (4 + s) n _) (4 + s) i = _
    by_cases e : i = n
    · subst e; rw [lgA_s, if_pos rfl]; rfl
    · rw [lgA_n _ _ _ _ (by omega), if_neg e]; rfl
  generalize wLg b (4 + s) n (lgA b (4 + s) n ||| (16 : Int64)) = b' at *
  unfold LR
  rw [er 0 (by decide), er 3 (by decide), er 4 (by decide), er 5 (by decide), er 7 (by decide), er 8 (by decide), er 9 (by decide), er 10 (by decide), er 19 (by decide), er 20 (by decide), er 21 (by decide), er 11 (by decide), er 12 (by decide), er 14 (by decide), er 15 (by decide), er 16 (by decide), er 17 (by decide), er 18 (by decide), er 25 (by decide), er 26 (by decide), er 27 (by decide), er 28 (by decide), er 23 (by decide), er 24 (by decide), er 29 (by decide), er 30 (by decide), er 31 (by decide), er 36 (by decide), er 37 (by decide), er 38 (by decide), er 39 (by decide), er 40 (by decide), er 41 (by decide), er 42 (by decide), er 43 (by decide), er 33 (by decide), er 34 (by decide), br 1 (by omega), br 8 (by omega), br 9 (by omega), br 10 (by omega), br 11 (by omega), br 12 (by omega), br 13 (by omega), br 14 (by omega)]
  refine ⟨l0, l1, fun z hz => ?_, fun z hz => ?_, fun z hz => ?_, l5, l6, l7, l8⟩
  · rw [br _ (by omega)]; exact l2 z hz
  · rw [e13]
    by_cases e : z = s
    · subst e
      refine ⟨N, e4, hN, fun i i1 i2 => ?_⟩
      obtain ⟨kd', w', p1, p2, p3, p4, t', g1, g2, g3, g4, g5, g6, g7, g8, g9, g10, g11, g12, g13, g14, g15, g16⟩ := hm i i1 i2
      by_cases ei : i = n
      · subst ei
        exact ⟨kd', 1, p1, p2, p3, p4, t', g1, by decide, g3, g4, g5, g6, g7, by rw [bL, if_pos rfl, g8, mc_16 g1 g2 g3 g4 g5 g6 g7], g9, g10, up1_s _ _ _, g12, g13, g14, g15, g16⟩
      · exact ⟨kd', w', p1, p2, p3, p4, t', g1, g2, g3, g4, g5, g6, g7, by rw [bL, if_neg ei]; exact g8, g9, g10, (up1_n _ _ (by omega)).trans g11, g12, g13, g14, g15, g16⟩
    · obtain ⟨N', e4', hN', hm'⟩ := l3 z hz
      rw [br _ (by omega)]
      refine ⟨N', e4', hN', fun i i1 i2 => ?_⟩
      obtain ⟨kd', w', p1, p2, p3, p4, t', g1, g2, g3, g4, g5, g6, g7, g8, g9, g10, g11, g12, g13, g14, g15, g16⟩ := hm' i i1 i2
      exact ⟨kd', w', p1, p2, p3, p4, t', g1, g2, g3, g4, g5, g6, g7, g8, g9, g10, (up1_n _ _ (by omega)).trans g11, g12, g13, g14, g15, g16⟩
  · rw [br _ (by omega)]; exact l4 z hz
theorem lr_leave {o : Nat} {b a : AS} (h : LR Hh b a) (ho : o < tn (a 0 22)) : LR Hh (up2 b 12 o (b 12 o ||| (8 : Int32))) (up2 a 29 o (nI 1)) := by
  obtain ⟨l0, l1, l2, l3, l4, l5, l6, l7, l8⟩ := h
  have er : ∀ k, k ≠ 29 → up2 a 29 o (nI 1) k = a k := fun k hk => up2_k _ _ hk
  have e29 : up2 a 29 o (nI 1) 29 = up1 (a 29) o (nI 1) := by unfold up2; rw [up1_s]
  have br : ∀ k, k ≠ 12 → up2 b 12 o (b 12 o ||| (8 : Int32)) k = b k := fun k hk => up2_k _ _ hk
  have b12 : up2 b 12 o (b 12 o ||| (8 : Int32)) 12 = up1 (b 12) o (b 12 o ||| (8 : Int32)) := by unfold up2; rw [up1_s]
  generalize up2 a 29 o (nI 1) = a' at *
  generalize up2 b 12 o (b 12 o ||| (8 : Int32)) = b' at *
  unfold LR
  rw [er 0 (by decide), er 3 (by decide), er 4 (by decide), er 5 (by decide), er 7 (by decide), er 8 (by decide), er 9 (by decide), er 10 (by decide), er 19 (by decide), er 20 (by decide), er 21 (by decide), er 11 (by decide), er 12 (by decide), er 13 (by decide), er 14 (by decide), er 15 (by decide), er 16 (by decide), er 17 (by decide), er 18 (by decide), er 25 (by decide), er 26 (by decide), er 27 (by decide), er 28 (by decide), er 23 (by decide), er 24 (by decide), er 30 (by decide), er 31 (by decide), er 36 (by decide), er 37 (by decide), er 38 (by decide), er 39 (by decide), er 40 (by decide), er 41 (by decide), er 42 (by decide), er 43 (by decide), er 33 (by decide), er 34 (by decide), br 1 (by omega), br 8 (by omega), br 9 (by omega), br 10 (by omega), br 11 (by omega), br 13 (by omega), br 14 (by omega), b12, e29]
  refine ⟨l0, l1, fun z hz => ?_, fun z hz => ?_, fun z hz => ?_, l5, ?_, l7, l8⟩
  · rw [br _ (by omega)]; exact l2 z hz
  · rw [br _ (by omega)]; exact l3 z hz
  · rw [br _ (by omega)]; exact l4 z hz
  · obtain ⟨K, e22, hK, hk, hzz⟩ := l6
    refine ⟨K, e22, hK, fun i hi => ?_, hzz⟩
    obtain ⟨se, kn, ha, le, un, rk, g1, g2, g3, g4, g5, g6, g7, g8, g9, g10, g11, g12, g13⟩ := hk i hi
    by_cases e : i = o
    · subst e
      exact ⟨se, kn, ha, 1, un, rk, g1, g2, g3, by decide, g5, g6, by rw [up1_s, g7, kc_8 g1 g2 g3 g4 g5 g6], g8, g9, g10, up1_s _ _ _, g12, g13⟩
    · exact ⟨se, kn, ha, le, un, rk, g1, g2, g3, g4, g5, g6, (up1_n _ _ e).trans g7, g8, g9, g10, (up1_n _ _ e).trans g11, g12, g13⟩
