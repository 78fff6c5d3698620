/-! REGISTER STATES. All cells of the class, of the reference and of the law are tags (kind, number); a register state tells what each holds: rM int fields and int elements, rN array lengths, rP element indexes (0: null, n + 1: number n) and moving references, rC how many of a kind, rA the address of each. -/
abbrev RS : Type := (Nat → Nat → Nat → Int32) × (Nat → Nat → Nat) × (Nat → Nat → Nat → Nat) × (Nat → Nat) × (Nat → Nat → Nat)
abbrev rM (σ : RS) : Nat → Nat → Nat → Int32 := σ.1
abbrev rN (σ : RS) : Nat → Nat → Nat := σ.2.1
abbrev rP (σ : RS) : Nat → Nat → Nat → Nat := σ.2.2.1
abbrev rC (σ : RS) : Nat → Nat := σ.2.2.2.1
abbrev rA (σ : RS) : Nat → Nat → Nat := σ.2.2.2.2
def up1 {α : Type} (f : Nat → α) (k : Nat) (v : α) : Nat → α := fun k' => if k' = k then v else f k'
def up2 {α : Type} (f : Nat → Nat → α) (k i : Nat) (v : α) : Nat → Nat → α := up1 f k (up1 (f k) i v)
def up3 {α : Type} (f : Nat → Nat → Nat → α) (k i j : Nat) (v : α) : Nat → Nat → Nat → α := up2 f k i (up1 (f k i) j v)
def sM (σ : RS) (k i j : Nat) (v : Int32) : RS := (up3 (rM σ) k i j v, σ.2)
def sN (σ : RS) (k i : Nat) (v : Nat) : RS := (σ.1, up2 (rN σ) k i v, σ.2.2)
def sP (σ : RS) (k i j : Nat) (v : Nat) : RS := (σ.1, σ.2.1, up3 (rP σ) k i j v, σ.2.2.2)
def sC (σ : RS) (k : Nat) (v : Nat) : RS := (σ.1, σ.2.1, σ.2.2.1, up1 (rC σ) k v, σ.2.2.2.2)
def sA (σ : RS) (k i : Nat) (v : Nat) : RS := (σ.1, σ.2.1, σ.2.2.1, σ.2.2.2.1, up2 (rA σ) k i v)
/-- a whole row of ints -/
def sR (σ : RS) (k i : Nat) (f : Nat → Int32) : RS := (up2 (rM σ) k i f, σ.2)
theorem up1_s {α : Type} (f : Nat → α) (k : Nat) (v : α) : up1 f k v k = v := if_pos rfl
theorem up1_n {α : Type} (f : Nat → α) {k k' : Nat} (v : α) (h : k' ≠ k) : up1 f k v k' = f k' := if_neg h
theorem up2_s {α : Type} (f : Nat → Nat → α) (k i : Nat) (v : α) : up2 f k i v k i = v := by rw [up2, up1_s, up1_s]
theorem up2_n {α : Type} (f : Nat → Nat → α) {k i k' i' : Nat} (v : α) (h : ¬ (k' = k ∧ i' = i)) : up2 f k i v k' i' = f k' i' := by
  unfold up2 up1
  by_cases hk : k' = k
  · subst hk
    rw [if_pos rfl, if_neg (fun e => h ⟨rfl, e⟩)]
  · rw [if_neg hk]
theorem up3_n {α : Type} (f : Nat → Nat → Nat → α) {k i j k' i' : Nat} (v : α) (h : ¬ (k' = k ∧ i' = i)) : up3 f k i j v k' i' = f k' i' := up2_n f _ h
theorem up3_s {α : Type} (f : Nat → Nat → Nat → α) (k i j : Nat) (v : α) : up3 f k i j v k i = up1 (f k i) j v := up2_s f k i _
/-- a long out of two ints, and its two halves -/
def mkL (lo hi : Int32) : Int64 := Int64.ofBitVec (hi.toBitVec ++ lo.toBitVec)
def loL (v : Int64) : Int32 := Int32.ofBitVec (v.toBitVec.extractLsb' 0 32)
def hiL (v : Int64) : Int32 := Int32.ofBitVec (v.toBitVec.extractLsb' 32 32)
theorem mkL_of (v : Int64) : mkL (loL v) (hiL v) = v := by
  unfold mkL loL hiL
  show Int64.ofBitVec (v.toBitVec.extractLsb' 32 32 ++ v.toBitVec.extractLsb' 0 32) = v
  have h : (v.toBitVec.extractLsb' 32 32 ++ v.toBitVec.extractLsb' 0 32 : BitVec 64) = v.toBitVec := by
    apply BitVec.eq_of_getLsbD_eq
    intro i hi
    rw [BitVec.getLsbD_append, BitVec.getLsbD_extractLsb', BitVec.getLsbD_extractLsb']
    by_cases c : i < 32
    · simp [c]
    · simp only [c, decide_false, cond_false, if_false]
      rw [show 32 + (i - 32) = i by omega]
      simp [show i - 32 < 32 by omega]
  rw [h]; exact Int64.ofBitVec_toBitVec v
theorem mkL_0 : mkL 0 0 = 0 := by decide +kernel
/-- what a kind is: 0 an object, 1 int[], 2 boolean[], 3 Object[], 4 TradeLine.Quote[], 5 long[] -/
def knd (k : Nat) : Nat := match k with
  | 5 => 3 | 8 => 1 | 9 => 1 | 10 => 1 | 11 => 1 | 12 => 2 | 13 => 1 | 24 => 4 | 30 => 1 | 31 => 3
  | 42 => 5 | 43 => 5 | 44 => 5 | 45 => 5 | 53 => 5 | 90 => 5
  | k => if 41 ≤ k ∧ k < 90 then 1 else 0
/-- the class of an object's kind, by its place in vwCl -/
def cK (k : Nat) : Nat := match k with
  | 0 => 11 | 1 => 8 | 2 => 10 | 3 => 3 | 4 => 2 | 6 => 6 | 7 => 6 | 20 => 7 | 21 => 4 | 22 => 4 | 23 => 5 | 25 => 9 | _ => 12
/-- the kind of a reference array's elements -/
def eK (k i : Nat) : Nat := if k = 24 then 25 else match i with
  | 0 => 6 | 1 => 6 | 5 => 23 | _ => 20
/-- an object's fields, of its own row of ints, of the lengths, its row of indexes, the addresses -/
def fvs (f : Nat → Int32) (N : Nat → Nat → Nat) (p : Nat → Nat) (A : Nat → Nat → Nat) (k i : Nat) : List Value := match k with
  | 0 => [.ref (A 1 0), .ref (A 1 1), .ref (A 4 2), .ref (A 4 3), .ref (A 4 4), .ref (A 4 5), .ref (A 24 0), .ref (A 24 1), .int (f 8), .int (f 9), .int (f 10)]
  | 1 => [.ref (A 4 i), .ref (A 2 i), .ref (A 3 i), .int (f 3), .int (f 4), .int (f 5), .int (f 6), .int (f 7), .int (f 8)]
  | 2 => [.ref (A 10 i), .ref (A 11 i), .ref (A 12 i), .int (f 3), .int (f 4)]
  | 3 => [.ref (A 13 i), .int (f 1)]
  | 4 => [.int (f 0), .ref (if N 5 i = 0 then A 31 0 else A 5 i), .int (f 2)]
  | 6 => [.int (f 0), .int (f 1), .ref (A 8 i), .int (f 3)]
  | 7 => [.int (f 0), .int (f 1), .ref (A 9 i), .int (f 3)]
  | 20 => [.int (f 0), .int (f 1), .ref (A 21 (2 * i)), .ref (A 21 (2 * i + 1)), .int (f 4), .int (f 5), .int (f 6), .int (f 7)]
  | 21 => [.int (f 0), .int (f 1), .int (f 2), .int (f 3)]
  | 22 => [.int (f 0), .int (f 1), .int (f 2), .int (f 3)]
  | 23 => [.ref (A 20 (p 0)), .int (f 1), .int (f 2), .int (f 3), .int (f 4), .int (f 5), .int (f 6), .int (f 7), .int (f 8)]
  | 25 => [.int (f 0), .int (f 1), .int (f 2)]
  | _ => []
/-- what a tag's cell holds; E: the classes of the arrays -/
def ctg (E : Nat → ClassId) (f : Nat → Int32) (N : Nat → Nat → Nat) (p : Nat → Nat) (A : Nat → Nat → Nat) (k i : Nat) : va_E := match knd k with
  | 0 => .inr (cK k, fvs f N p A k i)
  | 1 => .inl (E 0, N k i, .inl f)
  | 2 => .inl (E 1, N k i, .inl f)
  | 3 => .inl (E 2, N k i, .inr (.inr (.inr (.inr (fun j => if p j = 0 then none else some (A (eK k i) (p j - 1)))))))
  | 4 => .inl (E 3, N k i, .inr (.inr (.inr (.inr (fun j => if p j = 0 then none else some (A (eK k i) (p j - 1)))))))
  | _ => .inl (E 4, N k i, .inr (.inl (fun j => mkL (f (2 * j)) (f (2 * j + 1)))))
abbrev ct (E : Nat → ClassId) (σ : RS) (k i : Nat) : va_E := ctg E (rM σ k i) (rN σ) (rP σ k i) (rA σ) k i
def live (σ : RS) (k i : Nat) : Prop := i < rC σ k ∧ (k = 5 → rN σ 5 i ≠ 0)
def tysE (E : Nat → ClassId) : List (ClassId × FieldType) := [(E 0, .int), (E 1, .boolean), (E 2, .object "java/lang/Object"), (E 3, .object "TradeLine$Quote"), (E 4, .long)]
/-- a tag's cell: as ct says; of the two statics' arrays (30, 31) only its class and its contents are known -/
def vaL (q : Nat × va_E) (H : Heap) : Prop := match q.2 with
  | .inl a => ∃ cell : Cell, H[q.1]? = some cell ∧ cell.cls = a.1 ∧ cell.vm.isStatics = false ∧ cell.vm ≠ .unknown ∧ cell.slots = (vp_cell a.1 a.2).slots
  | .inr _ => ∃ cell : Cell, H[q.1]? = some cell
def vA (k : Nat) (D : va_G) (q : Nat × va_E) (H : Heap) : Prop := if k = 30 ∨ k = 31 then vaL q H else va_at D vwCl q H
/-- the world: each live tag's cell, and loose cells; all apart; those of a kind in A -/
def wld (D : va_G) (E : Nat → ClassId) (A : Nat → Prop) (σ : RS) (ex : va_W) (H : Heap) : Prop :=
  (∀ k i, live σ k i → vA k D (rA σ k i, ct E σ k i) H ∧ (k ≠ 30 → k ≠ 31 → A (rA σ k i))) ∧
  (∀ k i k' i', live σ k i → live σ k' i' → rA σ k i = rA σ k' i' → k = k' ∧ i = i') ∧
  (∀ (j : Nat) q, ex[j]? = some q → va_at D vwCl q H ∧ ∀ k i, live σ k i → rA σ k i ≠ q.1) ∧
  (∀ (i j : Nat) p q, ex[i]? = some p → ex[j]? = some q → p.1 = q.1 → i = j)
theorem vat_kept {D : va_G} {cl : List vw_C} {q : Nat × va_E} {H H1 : Heap} (h : va_at D cl q H) (e : H1[q.1]? = H[q.1]?) : va_at D cl q H1 := by
  obtain ⟨a, x | o⟩ := q
  · show H1[a]? = _
    exact e.trans h
  · obtain ⟨r, h1, h2⟩ := h
    exact ⟨r, h1, h2.kept e⟩
theorem vA.to {k : Nat} {D : va_G} {q : Nat × va_E} {H : Heap} (h : vA k D q H) (h0 : k ≠ 30) (h1 : k ≠ 31) : va_at D vwCl q H := by
  unfold vA at h
  rw [if_neg (fun e => e.elim h0 h1)] at h
  exact h
theorem vA.of {k : Nat} {D : va_G} {q : Nat × va_E} {H : Heap} (h : va_at D vwCl q H) : vA k D q H := by
  unfold vA
  by_cases hk : k = 30 ∨ k = 31
  · rw [if_pos hk]
    obtain ⟨a, x | o⟩ := q
    · obtain ⟨cA, n, y⟩ := x
      rcases y with y | y | y | y | y
      · exact ⟨_, h, rfl, rfl, (fun e => by cases e), rfl⟩
      · exact ⟨_, h, rfl, rfl, (fun e => by cases e), rfl⟩
      · exact ⟨_, h, rfl, rfl, (fun e => by cases e), rfl⟩
      · exact ⟨_, h, rfl, rfl, (fun e => by cases e), rfl⟩
      · exact ⟨_, h, rfl, rfl, (fun e => by cases e), rfl⟩
    · obtain ⟨r, -, cell, h2, -⟩ := h
      exact ⟨cell, h2⟩
  · rw [if_neg hk]; exact h
theorem vA.kept {k : Nat} {D : va_G} {q : Nat × va_E} {H H1 : Heap} (h : vA k D q H) (e : H1[q.1]? = H[q.1]?) : vA k D q H1 := by
  unfold vA at h ⊢
  by_cases hk : k = 30 ∨ k = 31
  · rw [if_pos hk] at h ⊢
    obtain ⟨a, x | o⟩ := q
    · obtain ⟨cell, h1, h2⟩ := h
      exact ⟨cell, e.trans h1, h2⟩
    · obtain ⟨cell, h1⟩ := h
      exact ⟨cell, e.trans h1⟩
  · rw [if_neg hk] at h ⊢
    exact vat_kept h e
theorem vA.lt {k : Nat} {D : va_G} {q : Nat × va_E} {H : Heap} (h : vA k D q H) : q.1 < H.size := by
  unfold vA at h
  by_cases hk : k = 30 ∨ k = 31
  · rw [if_pos hk] at h
    obtain ⟨a, x | o⟩ := q
    · obtain ⟨cell, h1, -⟩ := h
      exact (Array.getElem?_eq_some_iff.mp h1).1
    · obtain ⟨cell, h1⟩ := h
      exact (Array.getElem?_eq_some_iff.mp h1).1
  · rw [if_neg hk] at h
    exact h.lt
theorem wld_one {D : va_G} {E : Nat → ClassId} {A : Nat → Prop} {σ : RS} {ex : va_W} {H : Heap} (h : wld D E A σ ex H) {k i q : Nat} (hl : live σ k i) (hq : rA σ k i = q) (h0 : k ≠ 30) (h1 : k ≠ 31) : va_P D vwCl [(q, ct E σ k i)] H := by
  intro j x hx
  have hj : j < 1 := (List.getElem?_eq_some_iff.mp hx).1
  rw [show j = 0 by omega] at hx
  cases hx
  subst hq
  exact (h.1 k i hl).1.to h0 h1
theorem wld_lt {D : va_G} {E : Nat → ClassId} {A : Nat → Prop} {σ : RS} {ex : va_W} {H : Heap} (h : wld D E A σ ex H) {k i : Nat} (hl : live σ k i) : rA σ k i < H.size := by
  exact (h.1 k i hl).1.lt
/-- one live cell is written: the others stand -/
theorem wld_cell {D : va_G} {E : Nat → ClassId} {A : Nat → Prop} {σ σ' : RS} {ex : va_W} {H H1 : Heap} {k i : Nat} (h : wld D E A σ ex H) (hl : live σ k i)
    (hCA : σ'.2.2.2 = σ.2.2.2) (hN : σ'.2.1 = σ.2.1) (hM : ∀ k' i', ¬ (k' = k ∧ i' = i) → rM σ' k' i' = rM σ k' i' ∧ rP σ' k' i' = rP σ k' i')
    (h1 : va_at D vwCl (rA σ k i, ct E σ' k i) H1) (h2 : ∀ q : Nat, q ≠ rA σ k i → H1[q]? = H[q]?) : wld D E A σ' ex H1 := by
  have hA' : rA σ' = rA σ := by show σ'.2.2.2.2 = _; rw [hCA]
  have hL : ∀ k i, live σ' k i ↔ live σ k i := fun k i => by
    show (i < σ'.2.2.2.1 k ∧ (k = 5 → σ'.2.1 5 i ≠ 0)) ↔ _
    rw [hCA, hN]; exact Iff.rfl
  refine ⟨fun k' i' hk => ?_, fun k1 i1 k2 i2 g1 g2 e => ?_, fun j q hq => ⟨?_, fun k1 i1 g1 => ?_⟩, h.2.2.2⟩
  · have hk' := (hL k' i').mp hk
    by_cases hc : k' = k ∧ i' = i
    · obtain ⟨rfl, rfl⟩ := hc
      exact ⟨by rw [hA']; exact vA.of h1, by rw [hA']; exact (h.1 _ _ hk').2⟩
    · obtain ⟨e1, e2⟩ := hM k' i' hc
      have hne : rA σ k' i' ≠ rA σ k i := fun e => hc (h.2.1 _ _ _ _ hk' hl e)
      refine ⟨?_, by rw [hA']; exact (h.1 _ _ hk').2⟩
      have h3 := (h.1 _ _ hk').1.kept (h2 _ hne)
      rw [hA']
      show vA k' D (rA σ k' i', ctg E (rM σ' k' i') (rN σ') (rP σ' k' i') (rA σ') k' i') H1
      rw [e1, e2, hA', show rN σ' = rN σ from hN]
      exact h3
  · rw [hA'] at e
    exact h.2.1 _ _ _ _ ((hL _ _).mp g1) ((hL _ _).mp g2) e
  · obtain ⟨h3, h4⟩ := h.2.2.1 j q hq
    exact vat_kept h3 (h2 _ (fun e => h4 k i hl e.symm))
  · rw [hA']
    exact (h.2.2.1 j q hq).2 _ _ ((hL _ _).mp g1)
theorem sM_other (σ : RS) (k i j : Nat) (v : Int32) : ∀ k' i', ¬ (k' = k ∧ i' = i) → rM (sM σ k i j v) k' i' = rM σ k' i' ∧ rP (sM σ k i j v) k' i' = rP σ k' i' := fun k' i' h => ⟨up3_n _ _ h, rfl⟩
theorem sP_other (σ : RS) (k i j : Nat) (v : Nat) : ∀ k' i', ¬ (k' = k ∧ i' = i) → rM (sP σ k i j v) k' i' = rM σ k' i' ∧ rP (sP σ k i j v) k' i' = rP σ k' i' := fun k' i' h => ⟨rfl, up3_n _ _ h⟩
theorem rM_sM (σ : RS) (k i j : Nat) (v : Int32) : rM (sM σ k i j v) k i = up1 (rM σ k i) j v := up3_s _ _ _ _ _
theorem rP_sP (σ : RS) (k i j v : Nat) : rP (sP σ k i j v) k i = up1 (rP σ k i) j v := up3_s _ _ _ _ _
/-- a loose cell is written -/
theorem wld_ex {D : va_G} {E : Nat → ClassId} {A : Nat → Prop} {σ : RS} {ex : va_W} {H H1 : Heap} {a n : Nat} {x y : va_E} (h : wld D E A σ ex H) (hn : ex[n]? = some (a, x))
    (h1 : va_at D vwCl (a, y) H1) (h2 : ∀ q : Nat, q ≠ a → H1[q]? = H[q]?) : wld D E A σ (ex.set n (a, y)) H1 := by
  have hlt : n < ex.length := (List.getElem?_eq_some_iff.mp hn).1
  refine ⟨fun k' i' hk => ⟨(h.1 _ _ hk).1.kept (h2 _ ((h.2.2.1 n _ hn).2 _ _ hk)), (h.1 _ _ hk).2⟩, h.2.1, fun j q hq => ?_, fun i j p q hp hq e => ?_⟩
  · by_cases hj : j = n
    · subst hj
      rw [List.getElem?_set_self hlt] at hq
      cases hq
      exact ⟨h1, (h.2.2.1 j _ hn).2⟩
    · rw [List.getElem?_set_ne (fun e => hj e.symm)] at hq
      refine ⟨vat_kept (h.2.2.1 j q hq).1 (h2 _ (fun e => hj (h.2.2.2 _ _ _ _ hq hn e))), (h.2.2.1 j q hq).2⟩
  · have key : ∀ (j : Nat) q, (ex.set n (a, y))[j]? = some q → ∃ q', ex[j]? = some q' ∧ q'.1 = q.1 := fun j q hq => by
      by_cases hj : j = n
      · subst hj
        rw [List.getElem?_set_self hlt] at hq
        cases hq
        exact ⟨_, hn, rfl⟩
      · rw [List.getElem?_set_ne (fun e => hj e.symm)] at hq
        exact ⟨q, hq, rfl⟩
    obtain ⟨p', hp', ep⟩ := key i p hp
    obtain ⟨q', hq', eq⟩ := key j q hq
    exact h.2.2.2 _ _ _ _ hp' hq' (by rw [ep, eq, e])
/-- a new cell, loose -/
theorem wld_new {D : va_G} {E : Nat → ClassId} {A : Nat → Prop} {σ : RS} {ex : va_W} {H H1 : Heap} {a : Nat} {x : va_E} (h : wld D E A σ ex H) (ha : H.size ≤ a)
    (h1 : va_at D vwCl (a, x) H1) (h2 : ∀ q : Nat, q < H.size → H1[q]? = H[q]?) : wld D E A σ (ex ++ [(a, x)]) H1 := by
  have hex : ∀ (j : Nat) q, ex[j]? = some q → q.1 < H.size := fun j q hq => by
    have h3 := (h.2.2.1 j q hq).1
    exact h3.lt
  have key : ∀ (j : Nat) q, (ex ++ [(a, x)])[j]? = some q → (ex[j]? = some q) ∨ (j = ex.length ∧ q = (a, x)) := fun j q hq => by
    by_cases hj : j < ex.length
    · rw [List.getElem?_append_left hj] at hq
      exact Or.inl hq
    · rw [List.getElem?_append_right (by omega)] at hq
      have hz : j - ex.length < 1 := (List.getElem?_eq_some_iff.mp hq).1
      rw [show j - ex.length = 0 by omega] at hq
      cases hq
      exact Or.inr ⟨by omega, rfl⟩
  refine ⟨fun k' i' hk => ⟨(h.1 _ _ hk).1.kept (h2 _ (wld_lt h hk)), (h.1 _ _ hk).2⟩, h.2.1, fun j q hq => ?_, fun i j p q hp hq e => ?_⟩
  · rcases key j q hq with h3 | ⟨-, rfl⟩
    · exact ⟨vat_kept (h.2.2.1 j q h3).1 (h2 _ (hex j q h3)), (h.2.2.1 j q h3).2⟩
    · exact ⟨h1, fun k i hk e => absurd (wld_lt h hk) (by rw [e]; omega)⟩
  · rcases key i p hp with h3 | ⟨e3, rfl⟩ <;> rcases key j q hq with h4 | ⟨e4, rfl⟩
    · exact h.2.2.2 _ _ _ _ h3 h4 e
    · exact absurd (hex _ _ h3) (by rw [e]; show ¬ a < _; omega)
    · exact absurd (hex _ _ h4) (by rw [← e]; show ¬ a < _; omega)
    · omega
/-- fewer loose cells -/
theorem wld_sub {D : va_G} {E : Nat → ClassId} {A : Nat → Prop} {σ : RS} {ex ex' : va_W} {H : Heap} (h : wld D E A σ ex H) (is : List Nat) (hn : va_nd is = true) (hs : is.map (fun i => ex[i]?) = ex'.map some) : wld D E A σ ex' H := by
  have key : ∀ (j : Nat) q, ex'[j]? = some q → ∃ i, is[j]? = some i ∧ ex[i]? = some q := fun j q hq => by
    have h1 : (is.map (fun i => ex[i]?))[j]? = some (some q) := by rw [hs, List.getElem?_map, hq]; rfl
    rw [List.getElem?_map] at h1
    cases hi : is[j]? with
    | none => rw [hi] at h1; cases h1
    | some i => rw [hi] at h1; exact ⟨i, rfl, Option.some.inj h1⟩
  refine ⟨h.1, h.2.1, fun j q hq => ?_, fun i j p q hp hq e => ?_⟩
  · obtain ⟨i, -, hi⟩ := key j q hq
    exact h.2.2.1 i q hi
  · obtain ⟨i1, a1, b1⟩ := key i p hp
    obtain ⟨i2, a2, b2⟩ := key j q hq
    have e12 := h.2.2.2 _ _ _ _ b1 b2 e
    subst e12
    exact va_nd_inj is hn _ _ _ a1 a2
