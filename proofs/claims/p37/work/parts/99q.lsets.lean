/-! Rows of the relation that a step sets. -/
theorem L1_set {r a0 b3 b4 b5 b7 b8 b9 b10 b20 : Nat → Int32} {i j : Nat} {v : Int32} (h : L1 r a0 b3 b4 b5 b7 b8 b9 b10 b20) (hij : (i = 18 ∧ j = 22) ∨ (i = 19 ∧ j = 35) ∨ (i = 20 ∧ j = 44) ∨ (i = 21 ∧ j = 32) ∨ (i = 0 ∧ j = 1)) : L1 (up1 r i v) (up1 a0 j v) b3 b4 b5 b7 b8 b9 b10 b20 := by
  obtain ⟨x1, x2, x3, x4, x5, x6, h⟩ := h
  have n : ∀ i', i' ≠ i → up1 r i v i' = r i' := fun i' h1 => up1_n _ _ h1
  have m : ∀ j', j' ≠ j → up1 a0 j v j' = a0 j' := fun j' h1 => up1_n _ _ h1
  refine ⟨?_, ?_, ?_, ?_, ?_, ?_, fun t ht => ?_⟩
  · rcases hij with ⟨rfl, rfl⟩ | ⟨rfl, rfl⟩ | ⟨rfl, rfl⟩ | ⟨rfl, rfl⟩ | ⟨rfl, rfl⟩ <;> first | exact x1 | rfl
  · rcases hij with ⟨rfl, rfl⟩ | ⟨rfl, rfl⟩ | ⟨rfl, rfl⟩ | ⟨rfl, rfl⟩ | ⟨rfl, rfl⟩ <;> first | exact x2 | rfl
  · rcases hij with ⟨rfl, rfl⟩ | ⟨rfl, rfl⟩ | ⟨rfl, rfl⟩ | ⟨rfl, rfl⟩ | ⟨rfl, rfl⟩ <;> first | exact x3 | rfl
  · rcases hij with ⟨rfl, rfl⟩ | ⟨rfl, rfl⟩ | ⟨rfl, rfl⟩ | ⟨rfl, rfl⟩ | ⟨rfl, rfl⟩ <;> first | exact x4 | rfl
  · rcases hij with ⟨rfl, rfl⟩ | ⟨rfl, rfl⟩ | ⟨rfl, rfl⟩ | ⟨rfl, rfl⟩ | ⟨rfl, rfl⟩ <;> first | exact x5 | rfl
  · rcases hij with ⟨rfl, rfl⟩ | ⟨rfl, rfl⟩ | ⟨rfl, rfl⟩ | ⟨rfl, rfl⟩ | ⟨rfl, rfl⟩ <;> first | exact x6 | rfl
  · obtain ⟨y1, y2, y3, y4, y5, y6, y7, y8⟩ := h t ht
    exact ⟨(n _ (by omega)).trans y1, (n _ (by omega)).trans y2, (n _ (by omega)).trans y3, (n _ (by omega)).trans y4, (n _ (by omega)).trans y5, (n _ (by omega)).trans y6, (n _ (by omega)).trans y7, (n _ (by omega)).trans y8⟩
/-- one of a side's: (law's place, ghost's row) = 2 3, 4 4, 6 5, 8 7, 10 8, 12 9, 14 10, 16 20 -/
theorem L1_5 {r a0 b3 b4 b5 b7 b8 b9 b10 b20 : Nat → Int32} {s : Nat} {v : Int32} (hs : s < 2) (h : L1 r a0 b3 b4 b5 b7 b8 b9 b10 b20) : L1 (up1 r (6 + s) v) a0 b3 b4 (up1 b5 s v) b7 b8 b9 b10 b20 := by
  obtain ⟨x1, x2, x3, x4, x5, x6, h⟩ := h
  have n : ∀ i, i ≠ 6 + s → up1 r (6 + s) v i = r i := fun i h1 => up1_n _ _ h1
  refine ⟨(n 0 (by omega)).trans x1, (n 1 (by omega)).trans x2, (n 18 (by omega)).trans x3, (n 19 (by omega)).trans x4, (n 20 (by omega)).trans x5, (n 21 (by omega)).trans x6, fun t ht => ?_⟩
  obtain ⟨y1, y2, y3, y4, y5, y6, y7, y8⟩ := h t ht
  refine ⟨(n _ (by omega)).trans y1, (n _ (by omega)).trans y2, ?_, (n _ (by omega)).trans y4, (n _ (by omega)).trans y5, (n _ (by omega)).trans y6, (n _ (by omega)).trans y7, (n _ (by omega)).trans y8⟩
  by_cases e : t = s
  · subst e; rw [up1_s, up1_s]
  · rw [n _ (by omega), up1_n _ _ e]; exact y3
theorem up1_2 {f : Nat → Int32} {k k' : Nat} {v : Int32} : up1 f k v k' = if k' = k then v else f k' := rfl
/-- a book's row -/
theorem bkQ {z o z' o' : Nat} (ho : o < 10) (ho' : o' < 10) : (10 * z' + o' = 10 * z + o ↔ z' = z ∧ o' = o) ∧ (40 * z' + o' = 40 * z + o ↔ z' = z ∧ o' = o) := by constructor <;> omega
theorem bkU {f g : Nat → Int32} {z o z' o' : Nat} {v : Int32} (ho : o < 10) (ho' : o' < 10) (h : f (10 * z' + o') = g (40 * z' + o')) : up1 f (10 * z + o) v (10 * z' + o') = up1 g (40 * z + o) v (40 * z' + o') := by
  unfold up1
  by_cases e : z' = z ∧ o' = o
  · rw [if_pos ((bkQ ho ho').1.mpr e), if_pos ((bkQ ho ho').2.mpr e)]
  · rw [if_neg (fun x => e ((bkQ ho ho').1.mp x)), if_neg (fun x => e ((bkQ ho ho').2.mp x))]; exact h
theorem bkI {g : Nat → Int32} {i i' v : Nat} (hv : v ≤ 100) (h : ∃ P : Nat, P ≤ 100 ∧ g i' = nI P) : ∃ P : Nat, P ≤ 100 ∧ up1 g i (nI v) i' = nI P := by
  by_cases e : i' = i
  · exact ⟨v, hv, by rw [e, up1_s]⟩
  · obtain ⟨P, h1, h2⟩ := h
    exact ⟨P, h1, by rw [up1_n _ _ e]; exact h2⟩
theorem L5_p {r8 r9 r10 r11 b25 b26 b27 b28 : Nat → Int32} {z o v : Nat} (ho : o < 10) (hv : v ≤ 100) (h : L5 r8 r9 r10 r11 b25 b26 b27 b28) : L5 (up1 r8 (10 * z + o) (nI v)) r9 r10 r11 (up1 b25 (40 * z + o) (nI v)) b26 b27 b28 := fun z' o' hz' ho' => by
  obtain ⟨h1, h2, h3, h4, P, Z, h5, h6, h7, h8⟩ := h z' o' hz' ho'
  obtain ⟨P', p1, p2⟩ := bkI (i := 40 * z + o) hv ⟨P, h5, h7⟩
  exact ⟨bkU ho ho' h1, h2, h3, h4, P', Z, p1, h6, p2, h8⟩
theorem L5_z {r8 r9 r10 r11 b25 b26 b27 b28 : Nat → Int32} {z o v : Nat} (ho : o < 10) (hv : v ≤ 100) (h : L5 r8 r9 r10 r11 b25 b26 b27 b28) : L5 r8 (up1 r9 (10 * z + o) (nI v)) r10 r11 b25 (up1 b26 (40 * z + o) (nI v)) b27 b28 := fun z' o' hz' ho' => by
  obtain ⟨h1, h2, h3, h4, P, Z, h5, h6, h7, h8⟩ := h z' o' hz' ho'
  obtain ⟨P', p1, p2⟩ := bkI (i := 40 * z + o) hv ⟨Z, h6, h8⟩
  exact ⟨h1, bkU ho ho' h2, h3, h4, P, P', h5, p1, h7, p2⟩
theorem L5_d {r8 r9 r10 r11 b25 b26 b27 b28 : Nat → Int32} {z o : Nat} {v : Int32} (ho : o < 10) (h : L5 r8 r9 r10 r11 b25 b26 b27 b28) : L5 r8 r9 (up1 r10 (10 * z + o) v) r11 b25 b26 (up1 b27 (40 * z + o) v) b28 := fun z' o' hz' ho' => by
  obtain ⟨h1, h2, h3, h4, h5⟩ := h z' o' hz' ho'
  exact ⟨h1, h2, bkU ho ho' h3, h4, h5⟩
theorem L5_o {r8 r9 r10 r11 b25 b26 b27 b28 : Nat → Int32} {z o : Nat} {v : Int32} (ho : o < 10) (h : L5 r8 r9 r10 r11 b25 b26 b27 b28) : L5 r8 r9 r10 (up1 r11 (10 * z + o) v) b25 b26 b27 (up1 b28 (40 * z + o) v) := fun z' o' hz' ho' => by
  obtain ⟨h1, h2, h3, h4, h5⟩ := h z' o' hz' ho'
  exact ⟨h1, h2, h3, bkU ho ho' h4, h5⟩
/-- an order's word -/
def kRow (b23 b24 b29 b30 b31 : Nat → Int32) (o se kn ha le un rk : Nat) : Prop := (se < 2 ∧ kn < 2 ∧ ha < 2 ∧ le < 2 ∧ un ≤ 5 ∧ rk ≤ 10000) ∧ b23 o = nI se ∧ b24 o = nI kn ∧ b24 (40 + o) = nI ha ∧ b29 o = nI le ∧ b30 o = nI un ∧ b31 o = nI rk
theorem L6_at {r : Nat → Int32} {x22 : Int32} {b23 b24 b29 b30 b31 : Nat → Int32} {o : Nat} (h : L6 r x22 b23 b24 b29 b30 b31) (ho : o < tn x22) : o < 10 ∧ ∃ se kn ha le un rk : Nat, kRow b23 b24 b29 b30 b31 o se kn ha le un rk ∧ r o = nI (kcode se kn ha le un rk) := by
  obtain ⟨K, e, hK, h, -⟩ := h
  rw [e, tnI (by omega)] at ho
  obtain ⟨se, kn, ha, le, un, rk, g1, g2, g3, g4, g5, g6, g7, g8, g9, g10, g11, g12, g13⟩ := h o ho
  exact ⟨by omega, se, kn, ha, le, un, rk, ⟨⟨g1, g2, g3, g4, g5, g6⟩, g8, g9, g10, g11, g12, g13⟩, g7⟩
theorem L6_set {r r' : Nat → Int32} {x22 : Int32} {b23 b24 b29 b30 b31 c23 c24 c29 c30 c31 : Nat → Int32} {o se kn ha le un rk : Nat} (h : L6 r x22 b23 b24 b29 b30 b31) (hoK : o < tn x22) (hr : r' = up1 r o (nI (kcode se kn ha le un rk))) (hn : kRow c23 c24 c29 c30 c31 o se kn ha le un rk) (ho : ∀ i, i < 10 → i ≠ o → c23 i = b23 i ∧ c24 i = b24 i ∧ c24 (40 + i) = b24 (40 + i) ∧ c29 i = b29 i ∧ c30 i = b30 i ∧ c31 i = b31 i) : L6 r' x22 c23 c24 c29 c30 c31 := by
  subst hr
  obtain ⟨K, e, hK, h, hz⟩ := h
  rw [e, tnI (by omega)] at hoK
  refine ⟨K, e, hK, fun i hi => ?_, fun i hi h10 => by rw [(ho i h10 (by omega)).2.2.2.2.2]; exact hz i hi h10⟩
  by_cases ei : i = o
  · subst ei
    obtain ⟨⟨g1, g2, g3, g4, g5, g6⟩, g8, g9, g10, g11, g12, g13⟩ := hn
    exact ⟨se, kn, ha, le, un, rk, g1, g2, g3, g4, g5, g6, up1_s _ _ _, g8, g9, g10, g11, g12, g13⟩
  · obtain ⟨s', k', a', l', u', x', g1, g2, g3, g4, g5, g6, g7, g8, g9, g10, g11, g12, g13⟩ := h i hi
    obtain ⟨e1, e2, e3, e4, e5, e6⟩ := ho i (by omega) ei
    exact ⟨s', k', a', l', u', x', g1, g2, g3, g4, g5, g6, (up1_n _ _ ei).trans g7, e1.trans g8, e2.trans g9, e3.trans g10, e4.trans g11, e5.trans g12, e6.trans g13⟩
/-- an execution's row -/
def eRow (b36 b37 b38 b39 b40 b41 b42 b43 : Nat → Int32) (e o v dy sz mp hp tp kn hb tb : Nat) : Prop := (o < 10 ∧ v < 3 ∧ dy < 256 ∧ sz < 128 ∧ mp < 128 ∧ hp < 128 ∧ tp < 128 ∧ kn < 2 ∧ hb < 2 ∧ tb < 2) ∧ b36 e = nI o ∧ b37 e = nI v ∧ b38 e = nI dy ∧ b39 e = nI sz ∧ b40 e = nI mp ∧ b41 (100 + e) = nI hp ∧ b41 e = nI tp ∧ b42 e = nI kn ∧ b43 (100 + e) = nI hb ∧ b43 e = nI tb
theorem L7_at {r : Nat → Int32} {x35 : Int32} {b36 b37 b38 b39 b40 b41 b42 b43 : Nat → Int32} {e : Nat} (h : L7 r x35 b36 b37 b38 b39 b40 b41 b42 b43) (he : e < tn x35) : e < 60 ∧ ∃ o v dy sz mp hp tp kn hb tb : Nat, eRow b36 b37 b38 b39 b40 b41 b42 b43 e o v dy sz mp hp tp kn hb tb ∧ rwL r e = nL (ecode o v dy sz mp hp tp kn hb tb) := by
  obtain ⟨X, eX, hX, h⟩ := h
  rw [eX, tnI (by omega)] at he
  obtain ⟨o, v, dy, sz, mp, hp, tp, kn, hb, tb, h1, h2, h3, h4, h5, h6, h7, h8, h9, h10, h11, h12⟩ := h e he
  exact ⟨by omega, o, v, dy, sz, mp, hp, tp, kn, hb, tb, ⟨⟨h1, h2, h3, h4, h5, h6, h7, h8, h9, h10⟩, h12⟩, h11⟩
theorem L7_set {r r' : Nat → Int32} {x35 : Int32} {b36 b37 b38 b39 b40 b41 b42 b43 c36 c37 c38 c39 c40 c41 c42 c43 : Nat → Int32} {X' e o v dy sz mp hp tp kn hb tb : Nat} (h : L7 r x35 b36 b37 b38 b39 b40 b41 b42 b43) (hX : X' ≤ 60) (hX' : ∀ i, i < X' → i ≠ e → i < tn x35) (hr : ∀ i, rwL r' i = if i = e then nL (ecode o v dy sz mp hp tp kn hb tb) else rwL r i) (hn : eRow c36 c37 c38 c39 c40 c41 c42 c43 e o v dy sz mp hp tp kn hb tb) (ho : ∀ i, i < tn x35 → i ≠ e → c36 i = b36 i ∧ c37 i = b37 i ∧ c38 i = b38 i ∧ c39 i = b39 i ∧ c40 i = b40 i ∧ c41 (100 + i) = b41 (100 + i) ∧ c41 i = b41 i ∧ c42 i = b42 i ∧ c43 (100 + i) = b43 (100 + i) ∧ c43 i = b43 i) : L7 r' (nI X') c36 c37 c38 c39 c40 c41 c42 c43 := by
  refine ⟨X', rfl, hX, fun i hi => ?_⟩
  by_cases ei : i = e
  · subst ei
    obtain ⟨⟨h1, h2, h3, h4, h5, h6, h7, h8, h9, h10⟩, h12⟩ := hn
    exact ⟨o, v, dy, sz, mp, hp, tp, kn, hb, tb, h1, h2, h3, h4, h5, h6, h7, h8, h9, h10, by rw [hr, if_pos rfl], h12⟩
  · obtain ⟨o', v', dy', sz', mp', hp', tp', kn', hb', tb', h1, h2, h3, h4, h5, h6, h7, h8, h9, h10, h11, h12, h13, h14, h15, h16, h17, h18, h19, h20, h21⟩ := h.choose_spec.2.2 i (by
      have := hX' i hi ei
      rw [h.choose_spec.1, tnI (by have := h.choose_spec.2.1; omega)] at this
      exact this)
    obtain ⟨e1, e2, e3, e4, e5, e6, e7, e8, e9, e10⟩ := ho i (hX' i hi ei) ei
    exact ⟨o', v', dy', sz', mp', hp', tp', kn', hb', tb', h1, h2, h3, h4, h5, h6, h7, h8, h9, h10, by rw [hr, if_neg ei]; exact h11, e1.trans h12, e2.trans h13, e3.trans h14, e4.trans h15, e5.trans h16, e6.trans h17, e7.trans h18, e8.trans h19, e9.trans h20, e10.trans h21⟩
theorem L8_set {r b33 b34 c33 c34 : Nat → Int32} {q pr sz : Nat} {v : Int32} (h : L8 r b33 b34) (hp : pr ≤ 100) (hz : sz ≤ 200) (hv : v = nI (sz + 256 * pr)) (h4 : c34 = up1 b34 q (nI sz)) (h3 : ∀ i, c33 i = if i = q then nI pr else b33 i) : L8 (up1 r q v) c33 c34 := fun i hi => by
  subst h4
  by_cases e : i = q
  · subst e
    exact ⟨pr, sz, hp, hz, (up1_s _ _ _).trans hv, up1_s _ _ _, by rw [h3, if_pos rfl]⟩
  · obtain ⟨p', s', g1, g2, g3, g4, g5⟩ := h i hi
    exact ⟨p', s', g1, g2, (up1_n _ _ e).trans g3, (up1_n _ _ e).trans g4, by rw [h3, if_neg e]; exact g5⟩
/-- a long's row -/
theorem rwL_w (b : AS) (j e : Nat) (V : Int64) (i : Nat) : rwL (wLg b j e V j) i = if i = e then V else rwL (b j) i := by
  show lgA (wLg b j e V) j i = _
  by_cases h : i = e
  · subst h; rw [lgA_s, if_pos rfl]
  · rw [lgA_n _ _ _ _ (by omega), if_neg h]; rfl
/-! low -/
theorem I_ushr (v : Int32) : ∃ m : Nat, m < 2 ^ 31 ∧ (v.toUInt32 >>> ((1 : Int32).toUInt32 &&& Int32.toUInt32 31)).toInt32 = nI m := by
  have hv := v.toUInt32.toNat_lt
  refine ⟨v.toUInt32.toNat / 2, by omega, I_ext ?_⟩
  apply BitVec.eq_of_toNat_eq
  show (v.toUInt32 >>> ((1 : Int32).toUInt32 &&& Int32.toUInt32 31)).toNat = (BitVec.ofNat 32 (v.toUInt32.toNat / 2)).toNat
  rw [show ((1 : Int32).toUInt32 &&& Int32.toUInt32 31) = (1 : UInt32) from rfl, UInt32.toNat_shiftRight, show (1 : UInt32).toNat % 32 = 1 from rfl, Nat.shiftRight_eq_div_pow, BitVec.toNat_ofNat, Nat.mod_eq_of_lt (by omega)]
theorem lk_low (w : Nat) (b : AS) (v : Int32) {n : Nat} (h1 : 1 ≤ n) (h2 : n < 2 ^ 31) : ∃ r : Nat, r < n ∧ f_L_low w b v (nI n) = some (nI r) := by
  obtain ⟨m, hm, e⟩ := I_ushr v
  refine ⟨m % n, Nat.mod_lt _ (by omega), ?_⟩
  unfold f_L_low
  have hz : nzI (nI n) = true := by
    unfold nzI
    rw [decide_eq_false (fun z => by have := (nI_eq (a := n) (b := 0) h2 (by decide)).mp z; omega)]
    rfl
  rw [hz, e, pk_div hm (by omega) h2, pk_mul, pk_sub (Nat.div_mul_le_self m n), mdn]
  rfl
