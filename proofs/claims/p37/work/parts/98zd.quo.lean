/-! A quote, whole; the sends between. -/
theorem SI_quote {n : Nat → Nat} {l0 l1 v d j : Nat} {p : Nat → Nat} {a : AS} {x y : Int32} (hn : sm8 n ≤ 512) (hO : n 4 ≤ 40) (hd : d < 2) (hp : ∀ i, i < j → p i < tn (a 0 22) ∧ a 24 (40 + p i) ≠ nI 0 ∧ a 23 (p i) = nI d) (h : SI n 0 0 l0 (l1 + 5) a) : SI n 0 0 l0 l1 (gQL p j 0 (gQuo0 a v d x y)) := by
  have h1 := SI_quo0 (v := v) (d := d) (x := x) (y := y) h
  refine SI_quoL hn hO hd j 0 (gQuo0 a v d x y) (fun i _ hi => ?_) (SI_less (Nat.le_refl _) (by split <;> omega) h1)
  have e1 : gQuo0 a v d x y 0 22 = a 0 22 := rfl
  have e2 : gQuo0 a v d x y 24 = a 24 := rfl
  have e3 : gQuo0 a v d x y 23 = a 23 := rfl
  rw [e1, e2, e3]
  exact hp i (by omega)
theorem SI_quoteR {n : Nat → Nat} {l0 l1 v d j : Nat} {p : Nat → Nat} {a : AS} {x y : Int32} (hn : sm8 n ≤ 512) (hO : n 4 ≤ 40) (hd : d < 2) (hp : ∀ i, i < j → p i < tn (a 0 22) ∧ a 24 (40 + p i) ≠ nI 0 ∧ a 23 (p i) = nI d) (h : SI n 0 0 l0 (l1 + 5) a) : roomS (gQL p j 0 (gQuo0 a v d x y)) 1 1 :=
  SI_roomS (SI_quote hn hO hd hp h) hn hO (by decide) (by decide)
