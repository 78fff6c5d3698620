/-- list i's array is a new one: its row of indexes, its length, its address -/
def sL (σ : RS) (i : Nat) (p : Nat → Nat) (N q : Nat) : RS := sA (sN (sQ σ 5 i p) 5 i N) 5 i q
theorem ctg_frameQ {E : Nat → ClassId} {f : Nat → Int32} {N N' : Nat → Nat → Nat} {p : Nat → Nat} {A A' : Nat → Nat → Nat} {it k i : Nat} (hN : ∀ a b, ¬ (a = 5 ∧ b = it) → N' a b = N a b) (hA : ∀ a b, ¬ (a = 5 ∧ b = it) → A' a b = A a b) (h1 : ¬ (k = 4 ∧ i = it)) (h3 : ¬ (k = 5 ∧ i = it)) : ctg E f N' p A' k i = ctg E f N p A k i := by
  have a0 : ∀ a b, a ≠ 5 → A' a b = A a b := fun a b x1 => hA a b (by omega)
  unfold ctg
  split
  · congr 1
    congr 1
    unfold fvs
    split <;> first | rfl | (simp (discharger := decide) only [a0]; done) | (rw [hN 5 i (by omega), hA 5 i (by omega), a0 31 0 (by decide)])
  · rw [hN k i h3]
  · rw [hN k i h3]
  · rw [hN k i h3]
    have e : ∀ j : Nat, A' (eK k i) j = A (eK k i) j := fun j => by
      refine a0 _ _ ?_
      unfold eK; split <;> (try split) <;> omega
    simp only [e]
  · rw [hN k i h3]
    have e : ∀ j : Nat, A' (eK k i) j = A (eK k i) j := fun j => by
      refine a0 _ _ ?_
      unfold eK; split <;> (try split) <;> omega
    simp only [e]
  · rw [hN k i h3]
theorem wld_swapQ {D : va_G} {E : Nat → ClassId} {A : Nat → Prop} {σ : RS} {ex ex' : va_W} {H H1 : Heap} {t n q N : Nat} {p : Nat → Nat} {g : Nat → Option Nat} (h : wld D E A σ ex H) (hlo : live σ 4 t) (ht5 : t < rC σ 5) (hN0 : N ≠ 0) (hx : ex[n]? = some (q, .inl (E 2, N, .inr (.inr (.inr (.inr g)))))) (hg : ∀ j, g j = if p j = 0 then none else some (rA σ (eK 5 t) (p j - 1))) (hq : A q)
    (is : List Nat) (hn : va_nd is = true) (hs : is.map (fun i => ex[i]?) = ex'.map some) (hni : n ∉ is)
    (h1 : va_at D vwCl (rA σ 4 t, ct E (sL σ t p N q) 4 t) H1) (h2 : ∀ z : Nat, z ≠ rA σ 4 t → H1[z]? = H[z]?) : wld D E A (sL σ t p N q) ex' H1 := by
  have hA : ∀ a b, ¬ (a = 5 ∧ b = t) → rA (sL σ t p N q) a b = rA σ a b := fun a b hab => up2_n _ _ hab
  have hAt : rA (sL σ t p N q) 5 t = q := up2_s (rA σ) 5 t q
  have hN : ∀ a b, ¬ (a = 5 ∧ b = t) → rN (sL σ t p N q) a b = rN σ a b := fun a b hab => up2_n _ _ hab
  have hNt : rN (sL σ t p N q) 5 t = N := up2_s (rN σ) 5 t N
  have hL : ∀ a b, ¬ (a = 5 ∧ b = t) → (live (sL σ t p N q) a b ↔ live σ a b) := fun a b hab => by
    show (b < rC σ a ∧ (a = 5 → rN (sL σ t p N q) 5 b ≠ 0)) ↔ _
    by_cases h5 : a = 5
    · subst h5
      rw [hN 5 b hab]; exact Iff.rfl
    · exact ⟨fun z => ⟨z.1, fun e => absurd e h5⟩, fun z => ⟨z.1, fun e => absurd e h5⟩⟩
  have hqx := h.2.2.1 n _ hx
  have hqo : q ≠ rA σ 4 t := fun e => hqx.2 4 t hlo e.symm
  have hct : ct E (sL σ t p N q) 5 t = .inl (E 2, N, .inr (.inr (.inr (.inr g)))) := by
    rw [ct_oa rfl, hNt]
    have e : oa (sL σ t p N q) 5 t = g := by
      funext j
      unfold oa
      have e1 : rP (sL σ t p N q) 5 t = p := up2_s (rP σ) 5 t p
      have e2 : ∀ b, rA (sL σ t p N q) (eK 5 t) b = rA σ (eK 5 t) b := fun b => hA _ _ (by have := (knd_eK (k := 5) (i := t) (Or.inl rfl)).2.1; omega)
      rw [e1, e2]
      exact (hg j).symm
    rw [e]
  have key : ∀ (j : Nat) z, ex'[j]? = some z → ∃ i, is[j]? = some i ∧ ex[i]? = some z ∧ i ≠ n := fun j z hz => by
    have g1 : (is.map (fun i => ex[i]?))[j]? = some (some z) := by rw [hs, List.getElem?_map, hz]; rfl
    rw [List.getElem?_map] at g1
    cases hi : is[j]? with
    | none => rw [hi] at g1; cases g1
    | some i => rw [hi] at g1; exact ⟨i, rfl, Option.some.inj g1, fun e => hni (e ▸ List.mem_of_getElem? hi)⟩
  refine ⟨fun a b hab => ?_, fun a b a' b' g1 g2 e => ?_, fun j z hz => ?_, fun i j y z hy hz e => ?_⟩
  · by_cases c1 : a = 5 ∧ b = t
    · obtain ⟨rfl, rfl⟩ := c1
      rw [hAt]
      exact ⟨by rw [hct]; exact vA.of (vat_kept hqx.1 (h2 q hqo)), fun _ _ => hq⟩
    · have hl := (hL a b c1).mp hab
      rw [hA a b c1]
      refine ⟨?_, (h.1 a b hl).2⟩
      by_cases c2 : a = 4 ∧ b = t
      · obtain ⟨rfl, rfl⟩ := c2
        exact vA.of h1
      · have e1 : rP (sL σ t p N q) a b = rP σ a b := up2_n _ _ c1
        have e2 : ct E (sL σ t p N q) a b = ct E σ a b := by
          show ctg E _ _ (rP (sL σ t p N q) a b) _ a b = ctg E _ _ _ _ a b
          rw [e1]
          exact ctg_frameQ hN hA c2 c1
        rw [e2]
        exact (h.1 a b hl).1.kept (h2 _ (fun e => c2 (h.2.1 _ _ _ _ hl hlo e)))
  · by_cases c1 : a = 5 ∧ b = t
    · by_cases c2 : a' = 5 ∧ b' = t
      · omega
      · have l2 := (hL a' b' c2).mp g2
        obtain ⟨rfl, rfl⟩ := c1
        rw [hAt, hA a' b' c2] at e
        exact absurd e.symm (hqx.2 a' b' l2)
    · have l1 := (hL a b c1).mp g1
      rw [hA a b c1] at e
      by_cases c2 : a' = 5 ∧ b' = t
      · obtain ⟨rfl, rfl⟩ := c2
        rw [hAt] at e
        exact absurd e (hqx.2 a b l1)
      · rw [hA a' b' c2] at e
        exact h.2.1 _ _ _ _ l1 ((hL a' b' c2).mp g2) e
  · obtain ⟨i, -, hi, hin⟩ := key j z hz
    refine ⟨vat_kept (h.2.2.1 i z hi).1 (h2 _ (fun e => (h.2.2.1 i z hi).2 4 t hlo e.symm)), fun a b g1 e => ?_⟩
    by_cases c1 : a = 5 ∧ b = t
    · obtain ⟨rfl, rfl⟩ := c1
      rw [hAt] at e
      exact hin (h.2.2.2 _ _ _ _ hi hx e.symm)
    · rw [hA a b c1] at e
      exact (h.2.2.1 i z hi).2 a b ((hL a b c1).mp g1) e
  · obtain ⟨i1, a1, b1, -⟩ := key i y hy
    obtain ⟨i2, a2, b2, -⟩ := key j z hz
    have e12 := h.2.2.2 _ _ _ _ b1 b2 e
    subst e12
    exact va_nd_inj is hn _ _ _ a1 a2
section SwapQ
variable {p : Program} {l : Launch} {e : Env} {R : Room} {s : State} {m : MethodId} {args : Array Value} {below : List Frame} {meth : Method} {c : Code} {D : va_G} {E : Nat → ClassId} {A : Nat → Prop} {cc : ByteArray} {nL : Nat} {own : String} {Q : State → Prop}
variable {σ : RS} {ex : va_W} {cells slots pc : Nat} {lv : List (Nat × Value)} {rest : List Value}
theorem g_putQ (C : cx p s m args meth c D E A cc nL own) {t q N o : Nat} {p0 : Nat → Nat} {gq : Nat → Option Nat} {index : Nat} {ex' : va_W} (ho : rA σ 4 t = o) (hlo : live σ 4 t) (ht5 : t < rC σ 5) (hN0 : N ≠ 0) (n : Nat) (hx : ex[n]? = some (q, .inl (E 2, N, .inr (.inr (.inr (.inr gq)))))) (hg : ∀ j, gq j = if p0 j = 0 then none else some (rA σ (eK 5 t) (p0 j - 1))) (hq : A q) (is : List Nat) (hn : va_nd is = true) (hs : is.map (fun i => ex[i]?) = ex'.map some) (hni : n ∉ is)
    (hlink : Cond.fieldLink own index "java/util/ArrayList" "elementData" "[Ljava/lang/Object;" ∈ GT) (hd : decode cc pc = .ok (.putfield index, 3)) (kk : G p l e R s m args below meth c D E A nL Q (sL σ t p0 N q) ex' cells slots (pc + 3) lv (rest)) : G p l e R s m args below meth c D E A nL Q σ ex cells slots (pc) lv (.ref q :: .ref o :: rest) := fun H locs ls hw hs' hl => by
  subst ho
  have hat := (hw.1 4 t hlo).1.to (by decide) (by decide)
  rw [ct_obj rfl] at hat
  refine g_put0 C hat rfl inGJx4a65c tyJx4a65c tyJx4a65c_ok nmJx4a65c 1 (by decide) hlink (fun _ h => h) rfl (tyJx4a65c_ok 1 (by decide)) rfl rfl (by simp [fvs]) hd fun H1 i h1 h2 h3 => ?_
  refine kk H1 _ ls (wld_swapQ hw hlo ht5 hN0 hx hg hq is hn hs hni ?_ h3) (hs'.put h2 h3 ((hw.1 4 t hlo).2 (by decide) (by decide))) hl
  rw [ct_obj rfl]
  have hNt : rN (sL σ t p0 N q) 5 t = N := up2_s (rN σ) 5 t N
  have hAt : rA (sL σ t p0 N q) 5 t = q := up2_s (rA σ) 5 t q
  have e : fvs (rM (sL σ t p0 N q) 4 t) (rN (sL σ t p0 N q)) (rP (sL σ t p0 N q) 4 t) (rA (sL σ t p0 N q)) 4 t = (fvs (rM σ 4 t) (rN σ) (rP σ 4 t) (rA σ) 4 t).set 1 (.ref q) := by
    show [Value.int (rM σ 4 t 0), .ref (if rN (sL σ t p0 N q) 5 t = 0 then rA (sL σ t p0 N q) 31 0 else rA (sL σ t p0 N q) 5 t), .int (rM σ 4 t 2)] = [Value.int (rM σ 4 t 0), .ref q, .int (rM σ 4 t 2)]
    rw [hNt, hAt, if_neg hN0]
  rw [e]
  exact h1
end SwapQ
