/-! A message is kept, and goes if the line is up. -/
def kpB (b : AS) (s N V : Nat) : AS := wLg (up2 b 1 (4 + s) (nI (N + 1))) (4 + s) (N + 1) (nL V)
theorem L_sh (x k : Nat) (hk : k < 64) : nL x <<< (Int32.toInt64 (nI k) &&& 63) = nL (x * 2 ^ k) := by rw [nL_k _ hk, nL_shl _ _ hk]
theorem c_code {kd o1 o2 o3 o4 t : Nat} (h1 : kd < 2 ^ 31) (h2 : o1 < 2 ^ 31) (h3 : o2 < 2 ^ 31) (h4 : o3 < 2 ^ 31) (h5 : o4 < 2 ^ 31) (h6 : t < 2 ^ 31) : Int32.toInt64 (nI kd) + (Int32.toInt64 (nI o1) <<< (Int32.toInt64 (5 : Int32) &&& 63)) + (Int32.toInt64 (nI o2) <<< (Int32.toInt64 (13 : Int32) &&& 63)) + (Int32.toInt64 (nI o3) <<< (Int32.toInt64 (21 : Int32) &&& 63)) + (Int32.toInt64 (nI o4) <<< (Int32.toInt64 (29 : Int32) &&& 63)) + (Int32.toInt64 (nI t) <<< (Int32.toInt64 (37 : Int32) &&& 63)) = nL (mcode kd 0 o1 o2 o3 o4 t) := by
  rw [nI_L _ h1, nI_L _ h2, nI_L _ h3, nI_L _ h4, nI_L _ h5, nI_L _ h6, show (5 : Int32) = nI 5 from rfl, show (13 : Int32) = nI 13 from rfl, show (21 : Int32) = nI 21 from rfl, show (29 : Int32) = nI 29 from rfl, show (37 : Int32) = nI 37 from rfl, L_sh _ _ (by decide), L_sh _ _ (by decide), L_sh _ _ (by decide), L_sh _ _ (by decide), L_sh _ _ (by decide), nL_add, nL_add, nL_add, nL_add, nL_add]
  congr 1
  unfold mcode
  omega
theorem f_send {w s N kd o1 o2 o3 o4 t : Nat} {b : AS} (hs : s < 2) (hN : b 1 (4 + s) = nI N) (hN' : N + 1 < 64) (ht : b 1 0 = nI t) (h6 : t < 2 ^ 31) (h1 : kd < 2 ^ 31) (h2 : o1 < 2 ^ 31) (h3 : o2 < 2 ^ 31) (h4 : o3 < 2 ^ 31) (h5 : o4 < 2 ^ 31) : f_L_send w b (nI s) (nI kd) (nI o1) (nI o2) (nI o3) (nI o4) = if b 1 1 = 1 then (f_L_go w (kpB b s N (mcode kd 0 o1 o2 o3 o4 t)) (nI s) (nI (N + 1)) (0 : Int32)).bind (fun v => some (v.1, (0 : Int32))) else some (kpB b s N (mcode kd 0 o1 o2 o3 o4 t), (0 : Int32)) := by
  have hc := c_code h1 h2 h3 h4 h5 h6
  unfold kpB
  rcases (show s = 0 ∨ s = 1 by omega) with rfl | rfl
  · have w1 : ∀ (x : AS) i', wLg x 4 (N + 1) (nL (mcode kd 0 o1 o2 o3 o4 t)) 1 i' = x 1 i' := fun x i' => wLg_n _ _ _ _ (by decide) i'
    have hN2 : b 1 4 = nI N := hN
    have u4 : up2 b 1 4 (nI (N + 1)) 1 4 = nI (N + 1) := up2_s _ _ _ _
    have u0 : up2 b 1 4 (nI (N + 1)) 1 0 = nI t := (up2_n _ _ (by decide)).trans ht
    have u1 : up2 b 1 4 (nI (N + 1)) 1 1 = b 1 1 := up2_n _ _ (by decide)
    simp only [f_L_send, b_L_send_21, yl, show (4 : Int32) + nI 0 = nI 4 from rfl, show ixB (nI 4) 22 = true from rfl, show ixB (0 : Int32) 22 = true from rfl, show ixB (1 : Int32) 22 = true from rfl, show lnB 4 64 = true from by decide, cond_true, show (nI 4).toNatClampNeg = 4 from rfl, show (0 : Int32).toNatClampNeg = 0 from rfl, show (1 : Int32).toNatClampNeg = 1 from rfl, hN2, if_pos (show nI 0 = (0 : Int32) from rfl), show nI N + (1 : Int32) = nI (N + 1) from nI_add N 1, u4, u0, ixn (show N + 1 < 64 by omega) (show 64 < 2 ^ 31 by decide), nI_clamp (show N + 1 < 2 ^ 31 by omega), hc, w1, u1]
  · have w1 : ∀ (x : AS) i', wLg x 5 (N + 1) (nL (mcode kd 0 o1 o2 o3 o4 t)) 1 i' = x 1 i' := fun x i' => wLg_n _ _ _ _ (by decide) i'
    have hN2 : b 1 5 = nI N := hN
    have u4 : up2 b 1 5 (nI (N + 1)) 1 5 = nI (N + 1) := up2_s _ _ _ _
    have u0 : up2 b 1 5 (nI (N + 1)) 1 0 = nI t := (up2_n _ _ (by decide)).trans ht
    have u1 : up2 b 1 5 (nI (N + 1)) 1 1 = b 1 1 := up2_n _ _ (by decide)
    simp only [f_L_send, b_L_send_21, yl, show (4 : Int32) + nI 1 = nI 5 from rfl, show ixB (nI 5) 22 = true from rfl, show ixB (0 : Int32) 22 = true from rfl, show ixB (1 : Int32) 22 = true from rfl, show lnB 5 64 = true from by decide, cond_true, show (nI 5).toNatClampNeg = 5 from rfl, show (0 : Int32).toNatClampNeg = 0 from rfl, show (1 : Int32).toNatClampNeg = 1 from rfl, hN2, if_neg (show ¬ nI 1 = (0 : Int32) by decide), show nI N + (1 : Int32) = nI (N + 1) from nI_add N 1, u4, u0, ixn (show N + 1 < 64 by omega) (show 64 < 2 ^ 31 by decide), nI_clamp (show N + 1 < 2 ^ 31 by omega), hc, w1, u1]
theorem L1_4 {r r' a0 b3 b4 b5 b7 b8 b9 b10 b20 b4' : Nat → Int32} {s : Nat} {v : Int32} (hs : s < 2) (h : L1 r a0 b3 b4 b5 b7 b8 b9 b10 b20) (hr : r' = up1 r (4 + s) v) (h4 : b4' = up1 b4 s v) : L1 r' a0 b3 b4' b5 b7 b8 b9 b10 b20 := by
  subst hr h4
  obtain ⟨x1, x2, x3, x4, x5, x6, h⟩ := h
  have n : ∀ i, i ≠ 4 + s → up1 r (4 + s) v i = r i := fun i h1 => up1_n _ _ h1
  refine ⟨(n 0 (by omega)).trans x1, (n 1 (by omega)).trans x2, (n 18 (by omega)).trans x3, (n 19 (by omega)).trans x4, (n 20 (by omega)).trans x5, (n 21 (by omega)).trans x6, fun t ht => ?_⟩
  obtain ⟨y1, y2, y3, y4, y5, y6, y7, y8⟩ := h t ht
  refine ⟨(n _ (by omega)).trans y1, ?_, (n _ (by omega)).trans y3, (n _ (by omega)).trans y4, (n _ (by omega)).trans y5, (n _ (by omega)).trans y6, (n _ (by omega)).trans y7, (n _ (by omega)).trans y8⟩
  by_cases e : t = s
  · subst e; rw [up1_s, up1_s]
  · rw [n _ (by omega), up1_n _ _ e]; exact y2
theorem L3_up {r r' b11 b12 b13 b14 b15 b16 b17 : Nat → Int32} {x4 : Int32} {s N kd o1 o2 o3 o4 t : Nat} (h : L3 r x4 b11 b12 b13 b14 b15 b16 b17 s) (hN : x4 = nI N) (hN' : N + 1 ≤ 63) (hr : ∀ i, rwL r' i = if i = N + 1 then nL (mcode kd 0 o1 o2 o3 o4 t) else rwL r i) (h1 : kd < 16) (h2 : o1 ≤ 100) (h3 : o2 ≤ 100) (h4 : o3 ≤ 100) (h5 : o4 ≤ 100) (h6 : t ≤ 100000) (h7 : kd = 3 → 1 ≤ o1) : L3 r' (nI (N + 1)) (up1 b11 (8192 * s + (N + 1)) (nI kd)) (up1 b12 (8192 * s + (N + 1)) (nI t)) (up1 b13 (8192 * s + (N + 1)) (nI 0)) (up1 b14 (8192 * s + (N + 1)) (nI o1)) (up1 b15 (8192 * s + (N + 1)) (nI o2)) (up1 b16 (8192 * s + (N + 1)) (nI o3)) (up1 b17 (8192 * s + (N + 1)) (nI o4)) s := by
  obtain ⟨N', e4, hN2, h⟩ := h
  have eN : N' = N := (nI_eq (by omega) (by omega)).mp (e4.symm.trans hN)
  subst eN
  refine ⟨N' + 1, rfl, hN', fun n n1 n2 => ?_⟩
  by_cases e : n = N' + 1
  · subst e
    exact ⟨kd, 0, o1, o2, o3, o4, t, h1, by decide, h2, h3, h4, h5, h6, by rw [hr, if_pos rfl], up1_s _ _ _, up1_s _ _ _, up1_s _ _ _, up1_s _ _ _, up1_s _ _ _, up1_s _ _ _, up1_s _ _ _, h7⟩
  · obtain ⟨kd', w', p1, p2, p3, p4, t', g1, g2, g3, g4, g5, g6, g7, g8, g9, g10, g11, g12, g13, g14, g15, g16⟩ := h n n1 (by omega)
    exact ⟨kd', w', p1, p2, p3, p4, t', g1, g2, g3, g4, g5, g6, g7, by rw [hr, if_neg e]; exact g8, (up1_n _ _ (by omega)).trans g9, (up1_n _ _ (by omega)).trans g10, (up1_n _ _ (by omega)).trans g11, (up1_n _ _ (by omega)).trans g12, (up1_n _ _ (by omega)).trans g13, (up1_n _ _ (by omega)).trans g14, (up1_n _ _ (by omega)).trans g15, g16⟩
theorem L3_o {r b11 b12 b13 b14 b15 b16 b17 : Nat → Int32} {x4 v1 v2 v3 v4 v5 v6 v7 : Int32} {s t p : Nat} (hst : s ≠ t) (hs : s < 2) (ht : t < 2) (hp : p < 8192) (h : L3 r x4 b11 b12 b13 b14 b15 b16 b17 s) : L3 r x4 (up1 b11 (8192 * t + p) v1) (up1 b12 (8192 * t + p) v2) (up1 b13 (8192 * t + p) v3) (up1 b14 (8192 * t + p) v4) (up1 b15 (8192 * t + p) v5) (up1 b16 (8192 * t + p) v6) (up1 b17 (8192 * t + p) v7) s := by
  obtain ⟨N, e4, hN, h⟩ := h
  refine ⟨N, e4, hN, fun n n1 n2 => ?_⟩
  obtain ⟨kd', w', p1, p2, p3, p4, t', g1, g2, g3, g4, g5, g6, g7, g8, g9, g10, g11, g12, g13, g14, g15, g16⟩ := h n n1 n2
  exact ⟨kd', w', p1, p2, p3, p4, t', g1, g2, g3, g4, g5, g6, g7, g8, (up1_n _ _ (by omega)).trans g9, (up1_n _ _ (by omega)).trans g10, (up1_n _ _ (by omega)).trans g11, (up1_n _ _ (by omega)).trans g12, (up1_n _ _ (by omega)).trans g13, (up1_n _ _ (by omega)).trans g14, (up1_n _ _ (by omega)).trans g15, g16⟩
