/-! What the books, the executions and the messages keep. -/
/-- the house's sum of an order's executions that aren't busted -/
def hSm (a : AS) (o : Nat) : Nat → Nat
  | 0 => 0
  | e + 1 => hSm a o e + (if a 36 e = nI o ∧ a 43 (100 + e) = nI 0 then tn (a 39 e) else 0)
/-- the house's book of an order -/
def hbK (a : AS) (o E : Nat) : Prop := ∃ z d u : Nat, z ≤ 10000 ∧ d + u ≤ z ∧ a 26 (40 + o) = nI z ∧ a 27 (40 + o) = nI d ∧ a 28 (40 + o) = nI u ∧ d = hSm a o E ∧ (a 24 (40 + o) = nI 0 → d = 0 ∧ u = 0)
/-- an execution -/
def exK (a : AS) (O e : Nat) : Prop := (∃ o : Nat, o < O ∧ a 36 e = nI o ∧ a 24 (40 + o) ≠ nI 0) ∧ (∃ v : Nat, v ≤ 10000 ∧ a 37 e = nI v) ∧ (∃ z : Nat, z ≤ 10000 ∧ a 39 e = nI z) ∧ (∃ p : Nat, p ≤ 10000 ∧ a 40 e = nI p) ∧ a 42 (100 + e) ≠ nI 0 ∧ (a 42 e = nI 0 → a 43 e = nI 0) ∧ (a 43 e ≠ nI 0 → a 43 (100 + e) ≠ nI 0)
def mb1 (a : AS) (O E R : Nat) : Prop := a 0 22 = nI O ∧ O ≤ 40 ∧ a 0 35 = nI E ∧ E ≤ 100 ∧ a 0 32 = nI R
def mb2 (a : AS) (E : Nat) : Prop := ∀ o, o < 40 → hbK a o E
def mb3 (a : AS) (E : Nat) : Prop := ∀ o, o < 40 → lsum a 0 o E = a 27 o
def mb4 (a : AS) (O R : Nat) : Prop := (∀ o, o < O → ∃ d : Nat, d < 2 ∧ a 23 o = nI d) ∧ ∀ o, o < 40 → a 24 (40 + o) ≠ nI 0 → ∃ r : Nat, r < R ∧ a 31 o = nI r
def mb5 (a : AS) (O E : Nat) : Prop := ∀ e, e < E → exK a O e
def mb6 (a : AS) (E : Nat) : Prop := ∀ e : Nat, E ≤ e → e < 100 → a 37 e = nI 0 ∧ a 39 e = nI 0 ∧ a 40 e = nI 0 ∧ a 41 e = nI 0 ∧ a 42 e = nI 0 ∧ a 43 e = nI 0 ∧ a 43 (100 + e) = nI 0
def mb7 (a : AS) : Prop := ∀ q, q < 6 → (∃ p : Nat, p ≤ 10000 ∧ a 33 q = nI p) ∧ ∃ z : Nat, z ≤ 10000 ∧ a 34 q = nI z
/-- a message's values are small -/
def vS (a : AS) (q : Nat) : Prop := ∀ k, 14 ≤ k → k ≤ 17 → ∃ v : Nat, v ≤ 10000 ∧ a k q = nI v
/-- a report -/
def rpK (a : AS) (O E q : Nat) : Prop := ∃ σ o : Nat, a 14 q = nI σ ∧ σ ≤ 6 ∧ a 15 q = nI o ∧ o < O ∧ (σ = 1 → ∃ f t : Nat, a 16 q = nI f ∧ a 17 q = nI t ∧ f + t ≤ E ∧ ∀ e, f ≤ e → e < f + t → a 36 e = nI o) ∧ (σ = 5 → ∃ e : Nat, a 16 q = nI e ∧ e < E ∧ a 36 e = nI o ∧ a 43 (100 + e) ≠ nI 0) ∧ (σ = 6 → ∃ e : Nat, a 16 q = nI e ∧ e < E)
/-- a message that is kept -/
def mK (a : AS) (s O E q : Nat) : Prop := vS a q ∧ (a 11 q = nI 3 → ∃ g : Nat, g ≤ 8191 ∧ a 14 q = nI g) ∧ (s = 0 → ∀ kd : Nat, 5 ≤ kd → kd ≤ 7 → a 11 q = nI kd → ∃ o : Nat, o < O ∧ a 14 q = nI o) ∧ (s = 1 → a 11 q = nI 8 → rpK a O E q)
def isF (a : AS) (q f t : Nat) : Prop := a 11 q = nI 8 ∧ a 14 q = nI 1 ∧ a 16 q = nI f ∧ a 17 q = nI t ∧ f + t ≤ 100
def isB (a : AS) (q e : Nat) : Prop := a 11 q = nI 8 ∧ a 14 q = nI 5 ∧ a 16 q = nI e ∧ e < 100
def mm1 (a : AS) (O E : Nat) : Prop := ∀ s n : Nat, s < 2 → 1 ≤ n → n ≤ tn (a 4 s) → mK a s O E (8192 * s + n)
/-- what isn't taken yet speaks of what the trader doesn't know -/
def mm2 (a : AS) : Prop := (∀ n f t e : Nat, tn (a 5 0) ≤ n → n ≤ tn (a 4 1) → isF a (8192 * 1 + n) f t → f ≤ e → e < f + t → a 42 e = nI 0) ∧ ∀ n e : Nat, tn (a 5 0) ≤ n → n ≤ tn (a 4 1) → isB a (8192 * 1 + n) e → a 43 e = nI 0
/-- each is told once -/
def mm3 (a : AS) : Prop := (∀ n n' f t f' t' : Nat, 1 ≤ n → n < n' → n' ≤ tn (a 4 1) → isF a (8192 * 1 + n) f t → isF a (8192 * 1 + n') f' t' → f + t ≤ f') ∧ ∀ n n' e : Nat, 1 ≤ n → n < n' → n' ≤ tn (a 4 1) → isB a (8192 * 1 + n) e → ¬ isB a (8192 * 1 + n') e
def mm4 (a : AS) (K R : Nat) : Prop := R + pnd isA (kF a 0) (tn (a 5 1)) (lgN a 0) ≤ K
def MI (K O E R : Nat) (a : AS) : Prop := mb1 a O E R ∧ mb2 a E ∧ mb3 a E ∧ mb4 a O R ∧ mb5 a O E ∧ mb6 a E ∧ mb7 a ∧ frO a ∧ mm1 a O E ∧ mm2 a ∧ mm3 a ∧ mm4 a K R
theorem hSm_c {a b : AS} {o : Nat} : ∀ E : Nat, (∀ e, e < E → b 36 e = a 36 e ∧ b 39 e = a 39 e ∧ b 43 (100 + e) = a 43 (100 + e)) → hSm b o E = hSm a o E
  | 0, _ => rfl
  | E + 1, h => by
    obtain ⟨h1, h2, h3⟩ := h E (by omega)
    show hSm b o E + _ = hSm a o E + _
    rw [hSm_c E (fun e he => h e (by omega)), h1, h2, h3]
theorem cntO_c {a b : AS} {s o e : Nat} (h : b 36 e = a 36 e ∧ b 42 (100 * s + e) = a 42 (100 * s + e) ∧ b 43 (100 * s + e) = a 43 (100 * s + e)) : cntO b s o e ↔ cntO a s o e := by
  unfold cntO
  rw [h.1, h.2.1, h.2.2]
theorem lsum_pos {a : AS} {s o E : Nat} (h : cntO a s o E) : lsum a s o (E + 1) = lsum a s o E + a 39 E := by
  show @ite _ (cntO a s o E) (Classical.propDecidable _) _ _ = _
  rw [if_pos h]
theorem lsum_neg {a : AS} {s o E : Nat} (h : ¬ cntO a s o E) : lsum a s o (E + 1) = lsum a s o E := by
  show @ite _ (cntO a s o E) (Classical.propDecidable _) _ _ = _
  rw [if_neg h]
theorem lsum_c {a b : AS} {s o : Nat} : ∀ E : Nat, (∀ e, e < E → b 36 e = a 36 e ∧ b 39 e = a 39 e ∧ b 42 (100 * s + e) = a 42 (100 * s + e) ∧ b 43 (100 * s + e) = a 43 (100 * s + e)) → lsum b s o E = lsum a s o E
  | 0, _ => rfl
  | E + 1, h => by
    obtain ⟨h1, h2, h3, h4⟩ := h E (by omega)
    have ih := lsum_c (s := s) (o := o) E (fun e he => h e (by omega))
    have hc : cntO b s o E ↔ cntO a s o E := cntO_c ⟨h1, h3, h4⟩
    by_cases c : cntO a s o E
    · rw [lsum_pos c, lsum_pos (hc.mpr c), ih, h2]
    · rw [lsum_neg c, lsum_neg (fun h => c (hc.mp h)), ih]
theorem mb2_c {a b : AS} {E : Nat} (h1 : ∀ o, o < 40 → b 24 (40 + o) = a 24 (40 + o) ∧ b 26 (40 + o) = a 26 (40 + o) ∧ b 27 (40 + o) = a 27 (40 + o) ∧ b 28 (40 + o) = a 28 (40 + o)) (h2 : ∀ e, e < E → b 36 e = a 36 e ∧ b 39 e = a 39 e ∧ b 43 (100 + e) = a 43 (100 + e)) (h : mb2 a E) : mb2 b E := fun o ho => by
  obtain ⟨z, d, u, g1, g2, g3, g4, g5, g6, g7⟩ := h o ho
  obtain ⟨e1, e2, e3, e4⟩ := h1 o ho
  exact ⟨z, d, u, g1, g2, e2.trans g3, e3.trans g4, e4.trans g5, g6.trans (hSm_c E h2).symm, fun c => g7 (e1.symm.trans c)⟩
theorem mb3_c {a b : AS} {E : Nat} (h1 : ∀ o, o < 40 → b 27 o = a 27 o) (h2 : ∀ e, e < E → b 36 e = a 36 e ∧ b 39 e = a 39 e ∧ b 42 e = a 42 e ∧ b 43 e = a 43 e) (h : mb3 a E) : mb3 b E := fun o ho => by
  rw [h1 o ho, ← h o ho]
  refine lsum_c E (fun e he => ?_)
  rw [show 100 * 0 + e = e by omega]
  exact h2 e he
theorem mb4_c {a b : AS} {O R : Nat} (h1 : ∀ o, o < 40 → b 23 o = a 23 o ∧ b 24 (40 + o) = a 24 (40 + o) ∧ b 31 o = a 31 o) (hO : O ≤ 40) (h : mb4 a O R) : mb4 b O R := by
  refine ⟨fun o ho => ?_, fun o ho c => ?_⟩
  · obtain ⟨d, g1, g2⟩ := h.1 o ho
    exact ⟨d, g1, (h1 o (by omega)).1.trans g2⟩
  · obtain ⟨r, g1, g2⟩ := h.2 o ho (fun e => c ((h1 o ho).2.1.trans e))
    exact ⟨r, g1, (h1 o ho).2.2.trans g2⟩
theorem exK_c {a b : AS} {O e : Nat} (h1 : b 36 e = a 36 e ∧ b 37 e = a 37 e ∧ b 39 e = a 39 e ∧ b 40 e = a 40 e ∧ b 42 (100 + e) = a 42 (100 + e) ∧ b 42 e = a 42 e ∧ b 43 e = a 43 e ∧ b 43 (100 + e) = a 43 (100 + e)) (h2 : ∀ o, o < O → a 24 (40 + o) ≠ nI 0 → b 24 (40 + o) ≠ nI 0) (h : exK a O e) : exK b O e := by
  obtain ⟨e1, e2, e3, e4, e5, e6, e7, e8⟩ := h1
  obtain ⟨⟨o, g1, g2, g3⟩, ⟨v, w1, w2⟩, ⟨z, z1, z2⟩, ⟨p, p1, p2⟩, t1, t2, t3⟩ := h
  refine ⟨⟨o, g1, e1.trans g2, h2 o g1 g3⟩, ⟨v, w1, e2.trans w2⟩, ⟨z, z1, e3.trans z2⟩, ⟨p, p1, e4.trans p2⟩, ?_, ?_, ?_⟩
  · rw [e5]; exact t1
  · rw [e6, e7]; exact t2
  · rw [e7, e8]; exact t3
theorem mb6_c {a b : AS} {E : Nat} (h1 : ∀ e, E ≤ e → e < 100 → b 37 e = a 37 e ∧ b 39 e = a 39 e ∧ b 40 e = a 40 e ∧ b 41 e = a 41 e ∧ b 42 e = a 42 e ∧ b 43 e = a 43 e ∧ b 43 (100 + e) = a 43 (100 + e)) (h : mb6 a E) : mb6 b E := fun e he h100 => by
  obtain ⟨e1, e2, e3, e4, e5, e6, e7⟩ := h1 e he h100
  rw [e1, e2, e3, e4, e5, e6, e7]
  exact h e he h100
theorem mb7_c {a b : AS} (h1 : ∀ q, q < 6 → b 33 q = a 33 q ∧ b 34 q = a 34 q) (h : mb7 a) : mb7 b := fun q hq => by
  rw [(h1 q hq).1, (h1 q hq).2]
  exact h q hq
theorem frO_c {a b : AS} (h22 : b 0 22 = a 0 22) (h1 : ∀ o, tn (a 0 22) ≤ o → o < 40 → b 24 o = a 24 o ∧ b 24 (40 + o) = a 24 (40 + o) ∧ b 29 o = a 29 o ∧ b 30 o = a 30 o ∧ b 27 o = a 27 o ∧ b 28 o = a 28 o ∧ b 25 (40 + o) = a 25 (40 + o) ∧ b 26 (40 + o) = a 26 (40 + o) ∧ b 27 (40 + o) = a 27 (40 + o) ∧ b 28 (40 + o) = a 28 (40 + o)) (h : frO a) : frO b := fun o ho h40 => by
  rw [h22] at ho
  obtain ⟨e1, e2, e3, e4, e5, e6, e7, e8, e9, e10⟩ := h1 o ho h40
  rw [e1, e2, e3, e4, e5, e6, e7, e8, e9, e10]
  exact h o ho h40
/-- the rows of messages are the same -/
def mrow (a b : AS) : Prop := (∀ s, s < 2 → b 4 s = a 4 s) ∧ ∀ k i : Nat, k = 11 ∨ k = 14 ∨ k = 15 ∨ k = 16 ∨ k = 17 → b k i = a k i
theorem isF_c {a b : AS} {q f t : Nat} (h11 : b 11 q = a 11 q) (h14 : b 14 q = a 14 q) (h16 : b 16 q = a 16 q) (h17 : b 17 q = a 17 q) (h : isF b q f t) : isF a q f t := by
  unfold isF at h ⊢
  rw [h11, h14, h16, h17] at h
  exact h
theorem isB_c {a b : AS} {q e : Nat} (h11 : b 11 q = a 11 q) (h14 : b 14 q = a 14 q) (h16 : b 16 q = a 16 q) (h : isB b q e) : isB a q e := by
  unfold isB at h ⊢
  rw [h11, h14, h16] at h
  exact h
theorem rpK_c {a b : AS} {O O' E E' q : Nat} (hO : O ≤ O') (hE : E ≤ E') (h14 : b 14 q = a 14 q) (h15 : b 15 q = a 15 q) (h16 : b 16 q = a 16 q) (h17 : b 17 q = a 17 q) (h2 : ∀ e, e < E → b 36 e = a 36 e ∧ (a 43 (100 + e) ≠ nI 0 → b 43 (100 + e) ≠ nI 0)) (h : rpK a O E q) : rpK b O' E' q := by
  obtain ⟨σ, o, g1, g2, g3, g4, g5, g6, g7⟩ := h
  refine ⟨σ, o, h14.trans g1, g2, h15.trans g3, by omega, fun c => ?_, fun c => ?_, fun c => ?_⟩
  · obtain ⟨f, t, w1, w2, w3, w4⟩ := g5 c
    exact ⟨f, t, h16.trans w1, h17.trans w2, by omega, fun e h1 h3 => (h2 e (by omega)).1.trans (w4 e h1 h3)⟩
  · obtain ⟨e, w1, w2, w3, w4⟩ := g6 c
    exact ⟨e, h16.trans w1, by omega, (h2 e w2).1.trans w3, (h2 e w2).2 w4⟩
  · obtain ⟨e, w1, w2⟩ := g7 c
    exact ⟨e, h16.trans w1, by omega⟩
theorem mK_c {a b : AS} {s O O' E E' q : Nat} (hO : O ≤ O') (hE : E ≤ E') (hm : ∀ k, k = 11 ∨ k = 14 ∨ k = 15 ∨ k = 16 ∨ k = 17 → b k q = a k q) (h2 : ∀ e, e < E → b 36 e = a 36 e ∧ (a 43 (100 + e) ≠ nI 0 → b 43 (100 + e) ≠ nI 0)) (h : mK a s O E q) : mK b s O' E' q := by
  have h11 := hm 11 (by omega)
  have h14 := hm 14 (by omega)
  have h15 := hm 15 (by omega)
  have h16 := hm 16 (by omega)
  have h17 := hm 17 (by omega)
  obtain ⟨g1, g2, g3, g4⟩ := h
  refine ⟨fun k hk1 hk2 => ?_, fun c => ?_, fun hs kd w1 w2 w3 => ?_, fun hs c => ?_⟩
  · obtain ⟨v, w1, w2⟩ := g1 k hk1 hk2
    refine ⟨v, w1, ?_⟩
    rcases (show k = 14 ∨ k = 15 ∨ k = 16 ∨ k = 17 by omega) with rfl | rfl | rfl | rfl
    · exact h14.trans w2
    · exact h15.trans w2
    · exact h16.trans w2
    · exact h17.trans w2
  · obtain ⟨g, w1, w2⟩ := g2 (h11.symm.trans c)
    exact ⟨g, w1, h14.trans w2⟩
  · obtain ⟨o, t1, t2⟩ := g3 hs kd w1 w2 (h11.symm.trans w3)
    exact ⟨o, by omega, h14.trans t2⟩
  · exact rpK_c hO hE h14 h15 h16 h17 h2 (g4 hs (h11.symm.trans c))
theorem mm1_c {a b : AS} {O O' E E' : Nat} (hO : O ≤ O') (hE : E ≤ E') (hm : mrow a b) (h2 : ∀ e, e < E → b 36 e = a 36 e ∧ (a 43 (100 + e) ≠ nI 0 → b 43 (100 + e) ≠ nI 0)) (h : mm1 a O E) : mm1 b O' E' := fun s n hs h1 hn =>
  mK_c hO hE (fun k hk => hm.2 k _ hk) h2 (h s n hs h1 (by rw [← hm.1 s hs]; exact hn))
theorem mm2_c {a b : AS} (hm : mrow a b) (h5 : tn (a 5 0) ≤ tn (b 5 0)) (h2 : ∀ e, e < 100 → (a 42 e = nI 0 → b 42 e = nI 0) ∧ (a 43 e = nI 0 → b 43 e = nI 0)) (h : mm2 a) : mm2 b := by
  refine ⟨fun n f t e h1 hn hF g1 g2 => ?_, fun n e h1 hn hB => ?_⟩
  · rw [hm.1 1 (by decide)] at hn
    have hF' := isF_c (hm.2 11 _ (by omega)) (hm.2 14 _ (by omega)) (hm.2 16 _ (by omega)) (hm.2 17 _ (by omega)) hF
    exact (h2 e (by have := hF.2.2.2.2; omega)).1 (h.1 n f t e (by omega) hn hF' g1 g2)
  · rw [hm.1 1 (by decide)] at hn
    have hB' := isB_c (hm.2 11 _ (by omega)) (hm.2 14 _ (by omega)) (hm.2 16 _ (by omega)) hB
    exact (h2 e hB.2.2.2).2 (h.2 n e (by omega) hn hB')
theorem mm3_c {a b : AS} (hm : mrow a b) (h : mm3 a) : mm3 b := by
  refine ⟨fun n n' f t f' t' h1 hn hn' hF hF' => ?_, fun n n' e h1 hn hn' hB hB' => ?_⟩
  · rw [hm.1 1 (by decide)] at hn'
    exact h.1 n n' f t f' t' h1 hn hn' (isF_c (hm.2 11 _ (by omega)) (hm.2 14 _ (by omega)) (hm.2 16 _ (by omega)) (hm.2 17 _ (by omega)) hF) (isF_c (hm.2 11 _ (by omega)) (hm.2 14 _ (by omega)) (hm.2 16 _ (by omega)) (hm.2 17 _ (by omega)) hF')
  · rw [hm.1 1 (by decide)] at hn'
    exact h.2 n n' e h1 hn hn' (isB_c (hm.2 11 _ (by omega)) (hm.2 14 _ (by omega)) (hm.2 16 _ (by omega)) hB) (isB_c (hm.2 11 _ (by omega)) (hm.2 14 _ (by omega)) (hm.2 16 _ (by omega)) hB')
theorem mm4_c {a b : AS} {K R : Nat} (hm : mrow a b) (h5 : tn (a 5 1) ≤ tn (b 5 1)) (h : mm4 a K R) : mm4 b K R := by
  unfold mm4 lgN at h ⊢
  rw [hm.1 0 (by decide)]
  have e : pnd isA (kF b 0) (tn (b 5 1)) (tn (a 4 0)) = pnd isA (kF a 0) (tn (b 5 1)) (tn (a 4 0)) := pnd_congr _ (fun i _ _ => by unfold kF; rw [hm.2 11 _ (by omega)])
  rw [e]
  have := pnd_mono (p := isA) (f := kF a 0) h5 (tn (a 4 0))
  omega
/-- what leaves alone all but the trader's prices, sizes, requests -/
theorem MI_gen {K O E R : Nat} {a b : AS} (hr : ∀ k i : Nat, k = 4 ∨ k = 11 ∨ (14 ≤ k ∧ k ≤ 17) ∨ k = 23 ∨ k = 27 ∨ k = 31 ∨ k = 33 ∨ k = 34 ∨ k = 36 ∨ k = 37 ∨ k = 39 ∨ k = 40 ∨ k = 42 ∨ k = 43 → b k i = a k i) (hb : ∀ k o : Nat, k = 24 ∨ k = 25 ∨ k = 26 ∨ k = 28 → o < 40 → b k (40 + o) = a k (40 + o)) (h41 : ∀ e, E ≤ e → e < 100 → b 41 e = a 41 e) (h0 : ∀ i, i = 22 ∨ i = 35 ∨ i = 32 → b 0 i = a 0 i) (hf : ∀ k o : Nat, 24 ≤ k → k ≤ 30 → O ≤ o → o < 40 → b k o = a k o) (h5 : ∀ s, s < 2 → tn (a 5 s) ≤ tn (b 5 s)) (h : MI K O E R a) : MI K O E R b := by
  obtain ⟨g1, g2, g3, g4, g5, g6, g7, g8, g9, g10, g11, g12⟩ := h
  have hm : mrow a b := ⟨fun s _ => hr 4 s (by omega), fun k i hk => hr k i (by omega)⟩
  obtain ⟨w1, w2, w3, w4, w5⟩ := id g1
  have eO : tn (a 0 22) = O := by rw [w1, tnI (by omega)]
  refine ⟨⟨(h0 22 (by omega)).trans w1, w2, (h0 35 (by omega)).trans w3, w4, (h0 32 (by omega)).trans w5⟩, mb2_c (fun o ho => ⟨hb _ _ (by omega) ho, hb _ _ (by omega) ho, hr _ _ (by omega), hb _ _ (by omega) ho⟩) (fun e _ => ⟨hr _ _ (by omega), hr _ _ (by omega), hr _ _ (by omega)⟩) g2, mb3_c (fun o _ => hr _ _ (by omega)) (fun e _ => ⟨hr _ _ (by omega), hr _ _ (by omega), hr _ _ (by omega), hr _ _ (by omega)⟩) g3, mb4_c (fun o ho => ⟨hr _ _ (by omega), hb _ _ (by omega) ho, hr _ _ (by omega)⟩) w2 g4, fun e he => exK_c ⟨hr _ _ (by omega), hr _ _ (by omega), hr _ _ (by omega), hr _ _ (by omega), hr _ _ (by omega), hr _ _ (by omega), hr _ _ (by omega), hr _ _ (by omega)⟩ (fun o ho c => by rw [hb _ _ (by omega) (by omega)]; exact c) (g5 e he), mb6_c (fun e h1 h2 => ⟨hr _ _ (by omega), hr _ _ (by omega), hr _ _ (by omega), h41 e h1 h2, hr _ _ (by omega), hr _ _ (by omega), hr _ _ (by omega)⟩) g6, mb7_c (fun q _ => ⟨hr _ _ (by omega), hr _ _ (by omega)⟩) g7, frO_c (h0 22 (by omega)) (fun o h1 h2 => ?_) g8, mm1_c (Nat.le_refl _) (Nat.le_refl _) hm (fun e _ => ⟨hr _ _ (by omega), fun c => by rw [hr _ _ (by omega)]; exact c⟩) g9, mm2_c hm (h5 0 (by decide)) (fun e _ => ⟨fun c => by rw [hr _ _ (by omega)]; exact c, fun c => by rw [hr _ _ (by omega)]; exact c⟩) g10, mm3_c hm g11, mm4_c hm (h5 1 (by decide)) g12⟩
  rw [eO] at h1
  exact ⟨hf _ _ (by omega) (by omega) h1 h2, hb _ _ (by omega) h2, hf _ _ (by omega) (by omega) h1 h2, hf _ _ (by omega) (by omega) h1 h2, hf _ _ (by omega) (by omega) h1 h2, hf _ _ (by omega) (by omega) h1 h2, hb _ _ (by omega) h2, hb _ _ (by omega) h2, hr _ _ (by omega), hb _ _ (by omega) h2⟩
/-- what touches the line alone -/
theorem MI_line {K O E R : Nat} {a b : AS} (hr : ∀ k i : Nat, k = 4 ∨ k = 11 ∨ (14 ≤ k ∧ k ≤ 17) ∨ (23 ≤ k ∧ k ≤ 28) ∨ k = 31 ∨ k = 33 ∨ k = 34 ∨ (36 ≤ k ∧ k ≤ 43 ∧ k ≠ 38) → b k i = a k i) (h0 : ∀ i, i = 22 ∨ i = 35 ∨ i = 32 → b 0 i = a 0 i) (hf : ∀ o, O ≤ o → o < 40 → b 29 o = a 29 o ∧ b 30 o = a 30 o) (h5 : ∀ s, s < 2 → tn (a 5 s) ≤ tn (b 5 s)) (h : MI K O E R a) : MI K O E R b := by
  refine MI_gen (fun k i hk => hr k i (by omega)) (fun k o hk _ => hr k _ (by omega)) (fun e _ _ => hr _ _ (by omega)) h0 (fun k o h1 h2 h3 h4 => ?_) h5 h
  by_cases c : k ≤ 28
  · exact hr k o (by omega)
  · rcases (show k = 29 ∨ k = 30 by omega) with rfl | rfl
    · exact (hf o h3 h4).1
    · exact (hf o h3 h4).2
