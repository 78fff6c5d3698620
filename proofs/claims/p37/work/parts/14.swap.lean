/-- the tag kt it is a new array: its row, its length, its address -/
def sW (σ : RS) (k i : Nat) (f : Nat → Int32) (N q : Nat) : RS := sA (sN (sR σ k i f) k i N) k i q
theorem ctg_frame {E : Nat → ClassId} {f : Nat → Int32} {N N' : Nat → Nat → Nat} {p : Nat → Nat} {A A' : Nat → Nat → Nat} {kt it k i : Nat} (hk : kt = 10 ∨ kt = 11 ∨ kt = 12 ∨ kt = 13) (hN : ∀ a b, ¬ (a = kt ∧ b = it) → N' a b = N a b) (hA : ∀ a b, ¬ (a = kt ∧ b = it) → A' a b = A a b) (h1 : ¬ (k = 2 ∧ i = it)) (h2 : ¬ (k = 3 ∧ i = it)) (h3 : ¬ (k = kt ∧ i = it)) : ctg E f N' p A' k i = ctg E f N p A k i := by
  have a0 : ∀ a b, a ≠ 10 → a ≠ 11 → a ≠ 12 → a ≠ 13 → A' a b = A a b := fun a b x1 x2 x3 x4 => hA a b (by omega)
  have n5 : N' 5 i = N 5 i := hN 5 i (by omega)
  unfold ctg
  split
  · congr 1
    congr 1
    unfold fvs
    split <;> first | rfl | (simp (discharger := decide) only [a0, n5]; done) | (have e1 := hA 10 i (by omega); have e2 := hA 11 i (by omega); have e3 := hA 12 i (by omega); rw [e1, e2, e3]) | (have e1 := hA 13 i (by omega); rw [e1])
  · rw [hN k i h3]
  · rw [hN k i h3]
  · rw [hN k i h3]
    have e : ∀ j : Nat, A' (eK k i) j = A (eK k i) j := fun j => by
      refine a0 _ _ ?_ ?_ ?_ ?_ <;> (unfold eK; split <;> (try split) <;> omega)
    simp only [e]
  · rw [hN k i h3]
    have e : ∀ j : Nat, A' (eK k i) j = A (eK k i) j := fun j => by
      refine a0 _ _ ?_ ?_ ?_ ?_ <;> (unfold eK; split <;> (try split) <;> omega)
    simp only [e]
  · rw [hN k i h3]
theorem wld_swap {D : va_G} {E : Nat → ClassId} {A : Nat → Prop} {σ : RS} {ex ex' : va_W} {H H1 : Heap} {kt t n q N : Nat} {f : Nat → Int32} {cA : ClassId} {ko : Nat} (h : wld D E A σ ex H) (hk : kt = 10 ∨ kt = 11 ∨ kt = 12 ∨ kt = 13) (hko : ko = 2 ∨ ko = 3) (hkk : (kt = 13 → ko = 3) ∧ (kt ≠ 13 → ko = 2)) (hlo : live σ ko t) (hlt : live σ kt t) (hx : ex[n]? = some (q, .inl (cA, N, .inl f))) (hq : A q) (hct : ct E (sW σ kt t f N q) kt t = .inl (cA, N, .inl f))
    (is : List Nat) (hn : va_nd is = true) (hs : is.map (fun i => ex[i]?) = ex'.map some) (hni : n ∉ is)
    (h1 : va_at D vwCl (rA σ ko t, ct E (sW σ kt t f N q) ko t) H1) (h2 : ∀ z : Nat, z ≠ rA σ ko t → H1[z]? = H[z]?) : wld D E A (sW σ kt t f N q) ex' H1 := by
  have hA : ∀ a b, ¬ (a = kt ∧ b = t) → rA (sW σ kt t f N q) a b = rA σ a b := fun a b hab => up2_n _ _ hab
  have hAt : rA (sW σ kt t f N q) kt t = q := up2_s _ _ _ _
  have hN : ∀ a b, ¬ (a = kt ∧ b = t) → rN (sW σ kt t f N q) a b = rN σ a b := fun a b hab => up2_n _ _ hab
  have hL : ∀ a b, live (sW σ kt t f N q) a b ↔ live σ a b := fun a b => by
    show (b < rC σ a ∧ (a = 5 → rN (sW σ kt t f N q) 5 b ≠ 0)) ↔ _
    rw [hN 5 b (by omega)]; exact Iff.rfl
  have hne : ¬ (ko = kt ∧ t = t) := by omega
  have hqx := h.2.2.1 n _ hx
  have hqo : q ≠ rA σ ko t := fun e => hqx.2 ko t hlo e.symm
  have key : ∀ (j : Nat) z, ex'[j]? = some z → ∃ i, is[j]? = some i ∧ ex[i]? = some z ∧ i ≠ n := fun j z hz => by
    have g1 : (is.map (fun i => ex[i]?))[j]? = some (some z) := by rw [hs, List.getElem?_map, hz]; rfl
    rw [List.getElem?_map] at g1
    cases hi : is[j]? with
    | none => rw [hi] at g1; cases g1
    | some i => rw [hi] at g1; exact ⟨i, rfl, Option.some.inj g1, fun e => hni (e ▸ List.mem_of_getElem? hi)⟩
  refine ⟨fun a b hab => ?_, fun a b a' b' g1 g2 e => ?_, fun j z hz => ?_, fun i j y z hy hz e => ?_⟩
  · have hl := (hL a b).mp hab
    by_cases c1 : a = kt ∧ b = t
    · obtain ⟨rfl, rfl⟩ := c1
      rw [hAt]
      exact ⟨by rw [hct]; exact vA.of (vat_kept hqx.1 (h2 q hqo)), fun _ _ => hq⟩
    · rw [hA a b c1]
      refine ⟨?_, (h.1 a b hl).2⟩
      by_cases c2 : a = ko ∧ b = t
      · obtain ⟨rfl, rfl⟩ := c2
        exact vA.of h1
      · have e1 : rM (sW σ kt t f N q) a b = rM σ a b := up2_n _ _ c1
        have e2 : ct E (sW σ kt t f N q) a b = ct E σ a b := by
          show ctg E (rM (sW σ kt t f N q) a b) _ _ _ a b = ctg E _ _ _ _ a b
          rw [e1]
          rcases hko with rfl | rfl
          · by_cases c3 : a = 3 ∧ b = t
            · obtain ⟨rfl, rfl⟩ := c3
              have : rA (sW σ kt b f N q) 13 b = rA σ 13 b := hA 13 b (by omega)
              show Sum.inr (3, [Value.ref (rA (sW σ kt b f N q) 13 b), .int _]) = Sum.inr (3, [Value.ref (rA σ 13 b), .int _])
              rw [this]
            · exact ctg_frame hk hN hA c2 c3 c1
          · by_cases c3 : a = 2 ∧ b = t
            · obtain ⟨rfl, rfl⟩ := c3
              have q1 : rA (sW σ kt b f N q) 10 b = rA σ 10 b := hA 10 b (by omega)
              have q2 : rA (sW σ kt b f N q) 11 b = rA σ 11 b := hA 11 b (by omega)
              have q3 : rA (sW σ kt b f N q) 12 b = rA σ 12 b := hA 12 b (by omega)
              show Sum.inr (10, [Value.ref (rA (sW σ kt b f N q) 10 b), .ref (rA (sW σ kt b f N q) 11 b), .ref (rA (sW σ kt b f N q) 12 b), .int _, .int _]) = Sum.inr (10, [Value.ref (rA σ 10 b), .ref (rA σ 11 b), .ref (rA σ 12 b), .int _, .int _])
              rw [q1, q2, q3]
            · exact ctg_frame hk hN hA c3 c2 c1
        rw [e2]
        exact (h.1 a b hl).1.kept (h2 _ (fun e => c2 (h.2.1 _ _ _ _ hl hlo e)))
  · have l1 := (hL a b).mp g1
    have l2 := (hL a' b').mp g2
    by_cases c1 : a = kt ∧ b = t
    · by_cases c2 : a' = kt ∧ b' = t
      · omega
      · obtain ⟨rfl, rfl⟩ := c1
        rw [hAt, hA a' b' c2] at e
        exact absurd e.symm (hqx.2 a' b' l2)
    · rw [hA a b c1] at e
      by_cases c2 : a' = kt ∧ b' = t
      · obtain ⟨rfl, rfl⟩ := c2
        rw [hAt] at e
        exact absurd e (hqx.2 a b l1)
      · rw [hA a' b' c2] at e
        exact h.2.1 _ _ _ _ l1 l2 e
  · obtain ⟨i, -, hi, hin⟩ := key j z hz
    refine ⟨vat_kept (h.2.2.1 i z hi).1 (h2 _ (fun e => (h.2.2.1 i z hi).2 ko t hlo e.symm)), fun a b g1 e => ?_⟩
    have l1 := (hL a b).mp g1
    by_cases c1 : a = kt ∧ b = t
    · obtain ⟨rfl, rfl⟩ := c1
      rw [hAt] at e
      exact hin (h.2.2.2 _ _ _ _ hi hx e.symm)
    · rw [hA a b c1] at e
      exact (h.2.2.1 i z hi).2 a b l1 e
  · obtain ⟨i1, a1, b1, -⟩ := key i y hy
    obtain ⟨i2, a2, b2, -⟩ := key j z hz
    have e12 := h.2.2.2 _ _ _ _ b1 b2 e
    subst e12
    exact va_nd_inj is hn _ _ _ a1 a2
theorem ct_sW_i {E : Nat → ClassId} (σ : RS) {k : Nat} (hk : knd k = 1) (i : Nat) (f : Nat → Int32) (N q : Nat) : ct E (sW σ k i f N q) k i = .inl (E 0, N, .inl f) := by
  rw [ct_ia hk, show rN (sW σ k i f N q) k i = N from up2_s _ _ _ _, show rM (sW σ k i f N q) k i = f from up2_s _ _ _ _]
theorem ct_sW_z {E : Nat → ClassId} (σ : RS) {k : Nat} (hk : knd k = 2) (i : Nat) (f : Nat → Int32) (N q : Nat) : ct E (sW σ k i f N q) k i = .inl (E 1, N, .inl f) := by
  rw [ct_za hk, show rN (sW σ k i f N q) k i = N from up2_s _ _ _ _, show rM (sW σ k i f N q) k i = f from up2_s _ _ _ _]
theorem live5 {σ σ' : RS} {k i : Nat} (hk : k ≠ 5) (hC : rC σ' = rC σ) (h : live σ k i) : live σ' k i := ⟨by rw [hC]; exact h.1, fun e => absurd e hk⟩
section SwapG
variable {p : Program} {l : Launch} {e : Env} {R : Room} {s : State} {m : MethodId} {args : Array Value} {below : List Frame} {meth : Method} {c : Code} {D : va_G} {E : Nat → ClassId} {A : Nat → Prop} {cc : ByteArray} {nL : Nat} {own : String} {Q : State → Prop}
variable {σ : RS} {ex : va_W} {cells slots pc : Nat} {lv : List (Nat × Value)} {rest : List Value}
/-- a loose array becomes a field's array -/
theorem g_putA (C : cx p s m args meth c D E A cc nL own) {kt ko t q N o : Nat} {f : Nat → Int32} {cA : ClassId} {index : Nat} {ref Cn : String} {T : u_T} {Nf : Nat} {ex' : va_W} (hk : kt = 10 ∨ kt = 11 ∨ kt = 12 ∨ kt = 13) (hko : ko = 2 ∨ ko = 3) (hkk : (kt = 13 → ko = 3) ∧ (kt ≠ 13 → ko = 2)) (ho : rA σ ko t = o) (hlo : live σ ko t) (hlt : live σ kt t) (n : Nat) (hx : ex[n]? = some (q, .inl (cA, N, .inl f))) (hq : A q) (hct : ct E (sW σ kt t f N q) kt t = .inl (cA, N, .inl f)) (is : List Nat) (hn : va_nd is = true) (hs : is.map (fun i => ex[i]?) = ex'.map some) (hni : n ∉ is)
    (hci : vwCl[cK ko]? = some (Cn, T, Nf)) (hin : ∀ w ∈ u_ws Cn T Nf, w ∈ GT) (ty0 : Nat → FieldType) (hty : ∀ k, k < Nf → parseFieldDescriptor (T k).2.2.1 = some (ty0 k)) (hnm : ∀ a, a < Nf → ∀ b, b < Nf → a ≠ b → (T a).2.1 ≠ (T b).2.1) (j : Nat) (hj : j < Nf) (hlink : Cond.fieldLink own index ref (T j).2.1 (T j).2.2.1 ∈ GT) (hsame : ∀ x, s.fieldFound? (T j).1 (T j).2.1 (T j).2.2.1 = some x → s.fieldFound? ref (T j).2.1 (T j).2.2.1 = some x) (hfin : (T j).2.2.2 = false) {ty : FieldType} (hde : parseFieldDescriptor (T j).2.2.1 = some ty) (hnr : narrow ty (.ref q) = .ref q) (hfit : fits ty (.ref q) = true) (hlen : j < (fvs (rM σ ko t) (rN σ) (rP σ ko t) (rA σ) ko t).length)
    (hset : fvs (rM σ ko t) (rN (sW σ kt t f N q)) (rP σ ko t) (rA (sW σ kt t f N q)) ko t = (fvs (rM σ ko t) (rN σ) (rP σ ko t) (rA σ) ko t).set j (.ref q)) (hd : decode cc pc = .ok (.putfield index, 3))
    (kk : G p l e R s m args below meth c D E A nL Q (sW σ kt t f N q) ex' cells slots (pc + 3) lv (rest)) : G p l e R s m args below meth c D E A nL Q σ ex cells slots (pc) lv (.ref q :: .ref o :: rest) := fun H locs ls hw hs' hl => by
  subst ho
  have hkn : knd ko = 0 := by rcases hko with rfl | rfl <;> rfl
  have hat := (hw.1 ko t hlo).1.to (by omega) (by omega)
  rw [ct_obj hkn] at hat
  refine g_put0 C hat hci hin ty0 hty hnm j hj hlink hsame hfin hde hnr hfit hlen hd fun H1 i h1 h2 h3 => ?_
  refine kk H1 _ ls (wld_swap hw hk hko hkk hlo hlt hx hq hct is hn hs hni ?_ h3) (hs'.put h2 h3 ((hw.1 ko t hlo).2 (by omega) (by omega))) hl
  rw [ct_obj hkn]
  have e1 : rM (sW σ kt t f N q) ko t = rM σ ko t := up2_n _ _ (by omega)
  rw [e1]
  show va_at D vwCl (_, .inr (_, fvs _ _ (rP σ ko t) _ ko t)) H1
  rw [hset]
  exact h1
end SwapG
