/-! THE LAW'S ARRAYS AGAINST THE GHOST. b: the law's (1 g, 2 u, 3 v, 4 m, 5 c, 6 h, 7 j, 8 p, 9 z, 10 d, 11 o, 12 k, 13 e, 14 t); a: the ghost. In groups, each of rows. -/
def L0 (x y : Int32) : Prop := (∃ t : Nat, x = nI t ∧ t ≤ 100000) ∧ ∃ D : Nat, y = nI D ∧ D < 256
def L1 (r a0 b3 b4 b5 b7 b8 b9 b10 b20 : Nat → Int32) : Prop := r 0 = a0 1 ∧ r 1 = a0 2 ∧ r 18 = a0 22 ∧ r 19 = a0 35 ∧ r 20 = a0 44 ∧ r 21 = a0 32 ∧ ∀ s : Nat, s < 2 → r (2 + s) = b3 s ∧ r (4 + s) = b4 s ∧ r (6 + s) = b5 s ∧ r (8 + s) = b7 s ∧ r (10 + s) = b8 s ∧ r (12 + s) = b9 s ∧ r (14 + s) = b10 s ∧ r (16 + s) = b20 s
/-- the i-th long of a row of pairs -/
def rwL (r : Nat → Int32) (i : Nat) : Int64 := mkL (r (2 * i)) (r (2 * i + 1))
/-- a queue: its k-th entry is q k -/
def wyL (r : Nat → Int32) (q : Nat → Nat) : Prop := (∀ k, q k < 16384) ∧ ∀ i, i < 64 → rwL r i = nL (w4 (q (4 * i)) (q (4 * i + 1)) (q (4 * i + 2)) (q (4 * i + 3)))
def L2 (r : Nat → Int32) (x19 x20 : Int32) (b21 : Nat → Int32) (s : Nat) : Prop := ∃ (q : Nat → Nat) (c H : Nat), wyL r q ∧ x19 = nI H ∧ H < 65536 ∧ x20 = nI c ∧ c ≤ 240 ∧ ∀ k, k < c → ∃ x f g : Nat, x < 64 ∧ f ≤ 64 ∧ g < 2 ∧ q k = x + 64 * f + 8192 * g ∧ b21 (65536 * s + (H + k) % 65536) = nI (2 * (8192 * x + f) + g)
/-- a kept message in a long -/
def mcode (kd w o1 o2 o3 o4 t : Nat) : Nat := kd + 16 * w + 32 * o1 + 8192 * o2 + 2097152 * o3 + 536870912 * o4 + 137438953472 * t
def msL (r b11 b12 b13 b14 b15 b16 b17 : Nat → Int32) (s n : Nat) : Prop := ∃ kd w o1 o2 o3 o4 t : Nat, kd < 16 ∧ w < 2 ∧ o1 ≤ 100 ∧ o2 ≤ 100 ∧ o3 ≤ 100 ∧ o4 ≤ 100 ∧ t ≤ 100000 ∧ rwL r n = nL (mcode kd w o1 o2 o3 o4 t) ∧ b11 (8192 * s + n) = nI kd ∧ b12 (8192 * s + n) = nI t ∧ b13 (8192 * s + n) = nI w ∧ b14 (8192 * s + n) = nI o1 ∧ b15 (8192 * s + n) = nI o2 ∧ b16 (8192 * s + n) = nI o3 ∧ b17 (8192 * s + n) = nI o4 ∧ (kd = 3 → 1 ≤ o1)
def L3 (r : Nat → Int32) (x4 : Int32) (b11 b12 b13 b14 b15 b16 b17 : Nat → Int32) (s : Nat) : Prop := ∃ N : Nat, x4 = nI N ∧ N ≤ 63 ∧ ∀ n, 1 ≤ n → n ≤ N → msL r b11 b12 b13 b14 b15 b16 b17 s n
def L4 (H : Nat) (r b18 : Nat → Int32) (s : Nat) : Prop := ∀ n, n < 8192 → H ≤ n → ∃ v : Nat, b18 (8192 * s + n) = nI v ∧ (v ≤ 1 ∨ 4 ≤ v) ∧ v ≤ 66 ∧ (n < 64 → r n = nI (if v ≤ 1 then v else v - 1)) ∧ (64 ≤ n → v = 0)
def L5 (r8 r9 r10 r11 b25 b26 b27 b28 : Nat → Int32) : Prop := ∀ z o : Nat, z < 2 → o < 10 → r8 (10 * z + o) = b25 (40 * z + o) ∧ r9 (10 * z + o) = b26 (40 * z + o) ∧ r10 (10 * z + o) = b27 (40 * z + o) ∧ r11 (10 * z + o) = b28 (40 * z + o) ∧ ∃ P Z : Nat, P ≤ 100 ∧ Z ≤ 100 ∧ b25 (40 * z + o) = nI P ∧ b26 (40 * z + o) = nI Z
def kcode (se kn ha le un rk : Nat) : Nat := se + 2 * kn + 4 * ha + 8 * le + 16 * un + 256 * rk
def L6 (r : Nat → Int32) (x22 : Int32) (b23 b24 b29 b30 b31 : Nat → Int32) : Prop := ∃ K : Nat, x22 = nI K ∧ K ≤ 10 ∧ (∀ o, o < K → ∃ se kn ha le un rk : Nat, se < 2 ∧ kn < 2 ∧ ha < 2 ∧ le < 2 ∧ un ≤ 5 ∧ rk ≤ 10000 ∧ r o = nI (kcode se kn ha le un rk) ∧ b23 o = nI se ∧ b24 o = nI kn ∧ b24 (40 + o) = nI ha ∧ b29 o = nI le ∧ b30 o = nI un ∧ b31 o = nI rk) ∧ ∀ o, K ≤ o → o < 10 → b31 o = nI 0
/-- an execution in a long -/
def ecode (o v dy sz mp hp tp kn hb tb : Nat) : Nat := o + 16 * v + 64 * dy + 16384 * sz + 2097152 * mp + 268435456 * hp + 34359738368 * tp + 4398046511104 * kn + 8796093022208 * hb + 17592186044416 * tb
def L7 (r : Nat → Int32) (x35 : Int32) (b36 b37 b38 b39 b40 b41 b42 b43 : Nat → Int32) : Prop := ∃ X : Nat, x35 = nI X ∧ X ≤ 60 ∧ ∀ e, e < X → ∃ o v dy sz mp hp tp kn hb tb : Nat, o < 10 ∧ v < 3 ∧ dy < 256 ∧ sz < 128 ∧ mp < 128 ∧ hp < 128 ∧ tp < 128 ∧ kn < 2 ∧ hb < 2 ∧ tb < 2 ∧ rwL r e = nL (ecode o v dy sz mp hp tp kn hb tb) ∧ b36 e = nI o ∧ b37 e = nI v ∧ b38 e = nI dy ∧ b39 e = nI sz ∧ b40 e = nI mp ∧ b41 (100 + e) = nI hp ∧ b41 e = nI tp ∧ b42 e = nI kn ∧ b43 (100 + e) = nI hb ∧ b43 e = nI tb
def L8 (r b33 b34 : Nat → Int32) : Prop := ∀ q, q < 6 → ∃ pr sz : Nat, pr ≤ 100 ∧ sz ≤ 200 ∧ r q = nI (sz + 256 * pr) ∧ b34 q = nI sz ∧ b33 q = nI pr
/-- Hh: what is held below it isn't spoken of (as a turn takes it) -/
def LR (Hh : Nat → Nat) (b a : AS) : Prop :=
  L0 (a 0 1) (a 0 44) ∧ L1 (b 1) (a 0) (a 3) (a 4) (a 5) (a 7) (a 8) (a 9) (a 10) (a 20) ∧ (∀ s : Nat, s < 2 → L2 (b (2 + s)) (a 19 s) (a 20 s) (a 21) s) ∧
  (∀ s : Nat, s < 2 → L3 (b (4 + s)) (a 4 s) (a 11) (a 12) (a 13) (a 14) (a 15) (a 16) (a 17) s) ∧ (∀ s : Nat, s < 2 → L4 (Hh s) (b (6 + s)) (a 18) s) ∧
  L5 (b 8) (b 9) (b 10) (b 11) (a 25) (a 26) (a 27) (a 28) ∧ L6 (b 12) (a 0 22) (a 23) (a 24) (a 29) (a 30) (a 31) ∧
  L7 (b 13) (a 0 35) (a 36) (a 37) (a 38) (a 39) (a 40) (a 41) (a 42) (a 43) ∧ L8 (b 14) (a 33) (a 34)
/-! at first -/
theorem rwL_0 (i : Nat) : rwL (fun _ => 0) i = nL 0 := by unfold rwL; exact mkL_0
theorem lr_first {Hh : Nat → Nat} : LR Hh (up2 (up2 z1a 1 6 (nI 1)) 1 7 (nI 1)) c1a := by
  have e : ∀ j, j ≠ 1 → up2 (up2 z1a 1 6 (nI 1)) 1 7 (nI 1) j = fun _ => 0 := fun j hj => by rw [up2_k _ _ hj, up2_k _ _ hj]; rfl
  refine ⟨⟨⟨0, rfl, by decide⟩, 0, rfl, by decide⟩, ⟨rfl, rfl, rfl, rfl, rfl, rfl, fun s hs => ?_⟩, fun s hs => ?_, fun s hs => ?_, fun s hs => ?_, ?_, ?_, ?_, ?_⟩
  · rcases (show s = 0 ∨ s = 1 by omega) with rfl | rfl <;> exact ⟨rfl, rfl, rfl, rfl, rfl, rfl, rfl, rfl⟩
  · rw [e _ (by omega)]
    refine ⟨fun _ => 0, 0, 0, ⟨fun _ => show 0 < 16384 by decide, fun i _ => rwL_0 i⟩, ?_, by decide, ?_, by decide, fun k hk => absurd hk (Nat.not_lt_zero _)⟩ <;> rfl
  · exact ⟨0, rfl, by decide, fun n h1 h2 => by omega⟩
  · rw [e _ (by omega)]
    exact fun n _ _ => ⟨0, rfl, Or.inl (by decide), by decide, fun _ => rfl, fun _ => rfl⟩
  · rw [e _ (by omega), e _ (by omega), e _ (by omega), e _ (by omega)]
    exact fun z o _ _ => ⟨rfl, rfl, rfl, rfl, 0, 0, by decide, by decide, rfl, rfl⟩
  · exact ⟨0, rfl, by decide, fun o h => absurd h (Nat.not_lt_zero _), fun o _ _ => rfl⟩
  · exact ⟨0, rfl, by decide, fun o h => absurd h (Nat.not_lt_zero _)⟩
  · rw [e _ (by omega)]
    exact fun q _ => ⟨0, 0, by decide, by decide, rfl, rfl, rfl⟩
