/-! One direction: what is on its way to a side (Q), of which the other side has sent S; the side expects E, asked A at AT. -/
/-- where a thing held at n (v: its sort) ends -/
def hx (v n : Nat) : Nat := if v ≤ 1 then n + 1 else if v - 2 ≤ n + 1 then n + 1 else v - 2
theorem hx_gt (v n : Nat) : n < hx v n := by unfold hx; split <;> (try split) <;> omega
/-- the queue, its pieces (L), the RESENDs under way (r), those by time (tb); b: 1 if an answer was begun since the last one -/
def DQ (VB nP nC : Nat) (ic : Nat) (Q : List Nat) (S E A AT T r : Nat) (L : List (List Nat)) (b tb : Nat) : Prop :=
  cat L = Q ∧ L ≠ [] ∧ sfx VB S L ∧ incA L ∧ (∀ c, c ∈ Q → 1 ≤ cEn c ∧ cEn c ≤ S ∧ cNx c ≤ S + 1 ∧ cEf c ≠ 1) ∧ chn S Q ∧
  L.length + r + (if b = 1 ∨ A ≠ E then 1 else 0) ≤ 2 + tb ∧ (b ≠ 1 → A = E → ∀ l R, L = l :: R → ∀ c, c ∈ l → E < cEn c) ∧
  tb + (if ic = 2 ∨ AT < T then 1 else 0) ≤ nP ∧ tb + (if ic = 1 ∧ AT < T then 1 else 0) ≤ nC
def okx (Q : List Nat) (S E : Nat) (h : Nat → Nat) (G : List Nat) (z x : Nat) : Prop := NXq x Q S ∨ h x ≠ 0 ∨ x ∈ G ∨ x = z ∨ x < E
/-- what is held (h), the garbled numbers popped (G), what was expected at the connection's begin (z) -/
def DK (Q : List Nat) (S E A : Nat) (h : Nat → Nat) (G : List Nat) (z : Nat) : Prop :=
  1 ≤ E ∧ E ≤ S + 1 ∧ 1 ≤ z ∧ z ≤ E ∧ (A = 0 ∨ (z ≤ A ∧ A ≤ E ∧ A ≤ S)) ∧ (∀ n, h n ≠ 0 → n ≤ S ∧ hx (h n) n ≤ S + 1 ∧ okx Q S E h G z (hx (h n) n)) ∧ okx Q S E h G z E
theorem DK_AE {Q : List Nat} {S E A : Nat} {h : Nat → Nat} {G : List Nat} {z : Nat} (hk : DK Q S E A h G z) (e : A = E) : E ≤ S := by
  obtain ⟨k1, k2, k3, k4, k5, -⟩ := hk
  rcases k5 with k5 | k5 <;> omega
/-! a message is sent to the side -/
theorem DQ_live {VB nP nC ic : Nat} {Q : List Nat} {S E A AT T r l : Nat} {L : List (List Nat)} {b tb : Nat} (hl : cEn l = S + 1) (hx : cNx l = S + 2) (hf : cEf l ≠ 1) (hE : A = E → E ≤ S) (h : DQ VB nP nC ic Q S E A AT T r L b tb) : DQ VB nP nC ic (Q ++ [l]) (S + 1) E A AT T r (psh L l) b tb := by
  obtain ⟨h1, h2, h3, h4, h5, h6, h7, h8, h9, h10⟩ := h
  refine ⟨by rw [cat_psh, h1], psh_ne _ _, sfx_psh l L h3, psh_inc hl L h4 (fun c hc => (h5 c (by rw [← h1]; exact hc)).2.1), fun c hc => ?_, chn_live hl hx Q h6, by rw [psh_len _ _ h2]; exact h7, fun c1 c2 x R hL c hc => ?_, h9, h10⟩
  · rcases List.mem_append.mp hc with hc | hc
    · have := h5 c hc
      exact ⟨this.1, by omega, by omega, this.2.2.2⟩
    · have : c = l := by simpa using hc
      subst this
      exact ⟨by omega, by omega, by omega, hf⟩
  · have hE' := hE c2
    cases L with
    | nil => exact absurd rfl h2
    | cons l0 R0 =>
      have hh := h8 c1 c2 l0 R0 rfl
      cases R0 with
      | nil =>
        have hL' : [l0 ++ [l]] = x :: R := hL
        have := (List.cons.inj hL').1
        subst this
        rcases List.mem_append.mp hc with hc | hc
        · exact hh c hc
        · have : c = l := by simpa using hc
          subst this
          omega
      | cons m R0 =>
        have hL' : l0 :: psh (m :: R0) l = x :: R := hL
        have := (List.cons.inj hL').1
        subst this
        exact hh c hc
theorem okx_live {Q : List Nat} {S E : Nat} {h : Nat → Nat} {G : List Nat} {z x l : Nat} (hl : cEn l = S + 1) (o : okx Q S E h G z x) : okx (Q ++ [l]) (S + 1) E h G z x := o.elim (fun o => Or.inl (NXq_live hl Q o)) Or.inr
theorem DK_live {Q : List Nat} {S E A : Nat} {h : Nat → Nat} {G : List Nat} {z l : Nat} (hl : cEn l = S + 1) (hk : DK Q S E A h G z) : DK (Q ++ [l]) (S + 1) E A h G z := by
  obtain ⟨k1, k2, k3, k4, k5, k6, k7⟩ := hk
  refine ⟨k1, by omega, k3, k4, by omega, fun n hn => ?_, okx_live hl k7⟩
  have := k6 n hn
  exact ⟨by omega, by omega, okx_live hl this.2.2⟩
/-! an answer is put on the way -/
theorem DQ_blk {VB nP nC ic : Nat} {Q : List Nat} {S E A AT T r k : Nat} {L : List (List Nat)} {bl : List Nat} {b tb : Nat} (hb : blk S k bl ∨ bl = []) (hk : 1 ≤ k) (hV : bl.length ≤ VB) (h : DQ VB nP nC ic Q S E A AT T (r + 1) L b tb) : DQ VB nP nC ic (Q ++ bl) S E A AT T r (L ++ [bl]) b tb := by
  obtain ⟨h1, h2, h3, h4, h5, h6, h7, h8, h9, h10⟩ := h
  have hall : ∀ c, c ∈ bl → k ≤ cEn c ∧ cEn c ≤ S ∧ cNx c ≤ S + 1 ∧ cEf c ≠ 1 := fun c hc => by
    rcases hb with hb | hb
    · exact blk_all hb c hc
    · rw [hb] at hc; cases hc
  refine ⟨by rw [cat_app, h1], by simp, sfx_app hV L h3, app_inc h4 ?_, fun c hc => ?_, chn_block (fun c hc => (hall c hc).2.1) ?_ Q h6, ?_, fun c1 c2 x R hL c hc => ?_, h9, h10⟩
  · rcases hb with hb | hb
    · exact inc_le (Nat.zero_le _) (blk_inc hb)
    · rw [hb]; trivial
  · rcases List.mem_append.mp hc with hc | hc
    · exact h5 c hc
    · have := hall c hc
      omega
  · rcases hb with hb | hb
    · exact blk_chn hb
    · rw [hb]; trivial
  · rw [List.length_append, List.length_cons, List.length_nil]
    omega
  · cases L with
    | nil => exact absurd rfl h2
    | cons l0 R0 =>
      have hL' : l0 :: (R0 ++ [bl]) = x :: R := hL
      have := (List.cons.inj hL').1
      subst this
      exact h8 c1 c2 l0 R0 rfl c hc
theorem DK_blk {Q : List Nat} {S E A : Nat} {h : Nat → Nat} {G : List Nat} {z : Nat} {bl : List Nat} (hb : ∀ c, c ∈ bl → cEn c ≤ S) (hk : DK Q S E A h G z) : DK (Q ++ bl) S E A h G z := by
  obtain ⟨k1, k2, k3, k4, k5, k6, k7⟩ := hk
  have ho : ∀ x, okx Q S E h G z x → okx (Q ++ bl) S E h G z x := fun x o => o.elim (fun o => Or.inl (NXq_block hb Q o)) Or.inr
  exact ⟨k1, k2, k3, k4, k5, fun n hn => ⟨(k6 n hn).1, (k6 n hn).2.1, ho _ (k6 n hn).2.2⟩, ho _ k7⟩
/-! the first entry goes -/
theorem DQ_pop {VB nP nC ic : Nat} {q : List Nat} {S E A AT T r c : Nat} {L : List (List Nat)} {b tb : Nat} (h : DQ VB nP nC ic (c :: q) S E A AT T r L b tb) : ∃ b', DQ VB nP nC ic q S E A AT T r (popL L) b' tb ∧ (∀ l R, popL L = l :: R → ∀ c', c' ∈ l → cEn c < cEn c') ∧ (b' = 1 ∨ A ≠ E ∨ E < cEn c) ∧ (1 ≤ cEn c ∧ cEn c ≤ S ∧ cNx c ≤ S + 1 ∧ cEf c ≠ 1) ∧ NXq (cNx c) q S := by
  obtain ⟨h1, h2, h3, h4, h5, h6, h7, h8, h9, h10⟩ := h
  obtain ⟨p1, p2, p3⟩ := popL_cat L c q h1
  obtain ⟨p4, p5⟩ := popL_head L c q h1 h4
  have hhd : ∀ l R, popL L = l :: R → ∀ c', c' ∈ l → cEn c < cEn c' := fun l R e c' hc' => inc_all (p4 l R e) c' hc'
  have hq : ∀ c', c' ∈ q → 1 ≤ cEn c' ∧ cEn c' ≤ S ∧ cNx c' ≤ S + 1 ∧ cEf c' ≠ 1 := fun c' hc' => h5 c' (List.mem_cons_of_mem _ hc')
  by_cases cl : (popL L).length = L.length
  · refine ⟨b, ⟨p1, p2, popL_sfx L h3, popL_inc L h4, hq, h6.2, by rw [cl]; exact h7, fun c1 c2 l R e c' hc' => ?_, h9, h10⟩, hhd, ?_, h5 c (List.mem_cons_self ..), h6.1⟩
    · cases L with
      | nil => exact absurd rfl h2
      | cons l0 R0 =>
        obtain ⟨l', e1, e2⟩ := p5 cl l0 R0 rfl
        rw [e2] at e
        have := (List.cons.inj e).1
        subst this
        exact h8 c1 c2 l0 R0 rfl c' (by rw [e1]; exact List.mem_cons_of_mem _ hc')
    · by_cases c1 : b = 1
      · exact Or.inl c1
      · by_cases c2 : A = E
        · refine Or.inr (Or.inr ?_)
          cases L with
          | nil => exact absurd rfl h2
          | cons l0 R0 =>
            obtain ⟨l', e1, e2⟩ := p5 cl l0 R0 rfl
            exact h8 c1 c2 l0 R0 rfl c (by rw [e1]; exact List.mem_cons_self ..)
        · exact Or.inr (Or.inl c2)
  · refine ⟨1, ⟨p1, p2, popL_sfx L h3, popL_inc L h4, hq, h6.2, ?_, fun c1 => absurd rfl c1, h9, h10⟩, hhd, Or.inl rfl, h5 c (List.mem_cons_self ..), h6.1⟩
    rw [if_pos (Or.inl rfl)]
    split at h7 <;> omega
theorem DQ_r {VB nP nC ic : Nat} {Q : List Nat} {S E A AT T r r' : Nat} {L : List (List Nat)} {b tb : Nat} (hr : r' ≤ r) (h : DQ VB nP nC ic Q S E A AT T r L b tb) : DQ VB nP nC ic Q S E A AT T r' L b tb := by
  obtain ⟨h1, h2, h3, h4, h5, h6, h7, h8, h9, h10⟩ := h
  exact ⟨h1, h2, h3, h4, h5, h6, by omega, h8, h9, h10⟩
/-- what is expected moves on -/
theorem DQ_E {VB nP nC ic : Nat} {Q : List Nat} {S E E' A AT T r : Nat} {L : List (List Nat)} {b tb : Nat} (hA : A ≤ E) (hE : E < E') (hd : b = 1 ∨ A ≠ E) (h : DQ VB nP nC ic Q S E A AT T r L b tb) : DQ VB nP nC ic Q S E' A AT T r L b tb := by
  obtain ⟨h1, h2, h3, h4, h5, h6, h7, h8, h9, h10⟩ := h
  refine ⟨h1, h2, h3, h4, h5, h6, ?_, fun _ c2 => by omega, h9, h10⟩
  rw [if_pos hd] at h7
  rw [if_pos (show b = 1 ∨ A ≠ E' from Or.inr (by omega))]
  exact h7
/-- the side asks: for another number than before, or by time -/
theorem DQ_ask {VB nP nC ic : Nat} {Q : List Nat} {S E A AT T r : Nat} {L : List (List Nat)} {b tb : Nat} (hAT : AT ≤ T) (hi : ic ≠ 2) (hw : A ≠ E ∨ (AT + 5 ≤ T ∧ ic = 1)) (hh : ∀ l R, L = l :: R → ∀ c', c' ∈ l → E < cEn c') (h : DQ VB nP nC ic Q S E A AT T r L b tb) : ∃ tb', DQ VB nP nC ic Q S E E T T (r + 1) L 0 tb' := by
  obtain ⟨h1, h2, h3, h4, h5, h6, h7, h8, h9, h10⟩ := h
  by_cases c : A ≠ E
  · refine ⟨tb, h1, h2, h3, h4, h5, h6, ?_, fun _ _ => hh, ?_, ?_⟩
    · rw [if_pos (Or.inr c)] at h7
      rw [if_neg (by omega)]
      omega
    · rw [if_neg (fun h => h.elim hi (Nat.lt_irrefl _))]
      split at h9 <;> omega
    · rw [if_neg (fun h => Nat.lt_irrefl _ h.2)]
      split at h10 <;> omega
  · obtain ⟨w1, w2⟩ := hw.resolve_left c
    refine ⟨tb + 1, h1, h2, h3, h4, h5, h6, ?_, fun _ _ => hh, ?_, ?_⟩
    · rw [if_neg (by omega)]
      split at h7 <;> omega
    · rw [if_pos (Or.inr (by omega))] at h9
      rw [if_neg (fun h => h.elim hi (Nat.lt_irrefl _))]
      omega
    · rw [if_pos ⟨w2, by omega⟩] at h10
      rw [if_neg (fun h => Nat.lt_irrefl _ h.2)]
      omega
/-! what the side holds, and expects -/
theorem okx_pop {q : List Nat} {S E c : Nat} {h : Nat → Nat} {G : List Nat} {z x : Nat} (o : okx (c :: q) S E h G z x) : okx q S E h G z x ∨ cEn c = x := by
  rcases o with o | o
  · have o' : if cEn c < x then NXq x q S else cEn c = x := o
    by_cases c1 : cEn c < x
    · rw [if_pos c1] at o'; exact Or.inl (Or.inl o')
    · rw [if_neg c1] at o'; exact Or.inr o'
  · exact Or.inl (Or.inr o)
theorem okx_G {Q : List Nat} {S E : Nat} {h : Nat → Nat} {G : List Nat} {z x g : Nat} (o : okx Q S E h G z x) : okx Q S E h (g :: G) z x := by
  rcases o with o | o | o | o
  · exact Or.inl o
  · exact Or.inr (Or.inl o)
  · exact Or.inr (Or.inr (Or.inl (List.mem_cons_of_mem _ o)))
  · exact Or.inr (Or.inr (Or.inr o))
/-- a garbled one -/
theorem DK_garbled {q : List Nat} {S E A c : Nat} {h : Nat → Nat} {G : List Nat} {z : Nat} (hk : DK (c :: q) S E A h G z) : DK q S E A h (cEn c :: G) z := by
  obtain ⟨k1, k2, k3, k4, k5, k6, k7⟩ := hk
  have ho : ∀ x, okx (c :: q) S E h G z x → okx q S E h (cEn c :: G) z x := fun x o => by
    rcases okx_pop o with o | o
    · exact okx_G o
    · exact Or.inr (Or.inr (Or.inl (by rw [o]; exact List.mem_cons_self ..)))
  exact ⟨k1, k2, k3, k4, k5, fun n hn => ⟨(k6 n hn).1, (k6 n hn).2.1, ho _ (k6 n hn).2.2⟩, ho _ k7⟩
/-- one that was expected before -/
theorem DK_old {q : List Nat} {S E A c : Nat} {h : Nat → Nat} {G : List Nat} {z : Nat} (hc : cEn c < E) (hk : DK (c :: q) S E A h G z) : DK q S E A h G z := by
  obtain ⟨k1, k2, k3, k4, k5, k6, k7⟩ := hk
  have ho : ∀ x, okx (c :: q) S E h G z x → okx q S E h G z x := fun x o => by
    rcases okx_pop o with o | o
    · exact o
    · exact Or.inr (Or.inr (Or.inr (Or.inr (by omega))))
  exact ⟨k1, k2, k3, k4, k5, fun n hn => ⟨(k6 n hn).1, (k6 n hn).2.1, ho _ (k6 n hn).2.2⟩, ho _ k7⟩
/-- of a side that isn't on: nothing is held, and nothing was taken -/
theorem DK_off {q q' : List Nat} {S E A : Nat} {h : Nat → Nat} {G G' : List Nat} {z : Nat} (hh : ∀ n, h n = 0) (hz : z = E) (hk : DK q S E A h G z) : DK q' S E A h G' z := by
  obtain ⟨k1, k2, k3, k4, k5, k6, k7⟩ := hk
  exact ⟨k1, k2, k3, k4, k5, fun n hn => absurd (hh n) hn, Or.inr (Or.inr (Or.inr (Or.inl hz.symm)))⟩
/-- one ahead of what is expected is held -/
theorem DK_hold {q : List Nat} {S E A c v : Nat} {h : Nat → Nat} {G : List Nat} {z : Nat} (hc : E < cEn c) (hn : cEn c ≤ S) (hv : v ≠ 0) (hvx : hx v (cEn c) = cNx c) (hx1 : cNx c ≤ S + 1) (hx2 : NXq (cNx c) q S) (hk : DK (c :: q) S E A h G z) : DK q S E A (fun i => if i = cEn c then v else h i) G z ∧ (h E = 0 → E ∈ G ∨ E = z) ∧ E ≤ S := by
  obtain ⟨k1, k2, k3, k4, k5, k6, k7⟩ := hk
  have ho : ∀ x, okx (c :: q) S E h G z x → okx q S E (fun i => if i = cEn c then v else h i) G z x := fun x o => by
    rcases okx_pop o with o | o
    · rcases o with o | o | o
      · exact Or.inl o
      · refine Or.inr (Or.inl ?_)
        show (if x = cEn c then v else h x) ≠ 0
        split
        · exact hv
        · exact o
      · exact Or.inr (Or.inr o)
    · refine Or.inr (Or.inl ?_)
      show (if x = cEn c then v else h x) ≠ 0
      rw [if_pos o.symm]
      exact hv
  refine ⟨⟨k1, k2, k3, k4, k5, fun n hn' => ?_, ho _ k7⟩, fun hE => ?_, by omega⟩
  · by_cases e : n = cEn c
    · show n ≤ S ∧ hx (if n = cEn c then v else h n) n ≤ S + 1 ∧ okx q S E _ G z (hx (if n = cEn c then v else h n) n)
      rw [if_pos e, e, hvx]
      exact ⟨hn, hx1, Or.inl hx2⟩
    · have hn2 : (if n = cEn c then v else h n) ≠ 0 := hn'
      rw [if_neg e] at hn2
      show n ≤ S ∧ hx (if n = cEn c then v else h n) n ≤ S + 1 ∧ okx q S E _ G z (hx (if n = cEn c then v else h n) n)
      rw [if_neg e]
      exact ⟨(k6 n hn2).1, (k6 n hn2).2.1, ho _ (k6 n hn2).2.2⟩
  · rcases k7 with o | o | o | o | o
    · have o' : if cEn c < E then NXq E q S else cEn c = E := o
      rw [if_neg (by omega)] at o'
      omega
    · exact absurd hE o
    · exact Or.inl o
    · exact Or.inr o
    · omega
/-- the expected one is taken -/
theorem DK_take {q : List Nat} {S E A c : Nat} {h : Nat → Nat} {G : List Nat} {z : Nat} (hc : cEn c = E) (hx1 : cNx c ≤ S + 1) (hx2 : NXq (cNx c) q S) (hk : DK (c :: q) S E A h G z) : DK q S (cNx c) A h G z := by
  obtain ⟨k1, k2, k3, k4, k5, k6, k7⟩ := hk
  have hgt := cNx_gt c
  have ho : ∀ x, okx (c :: q) S E h G z x → okx q S (cNx c) h G z x := fun x o => by
    rcases okx_pop o with o | o
    · rcases o with o | o | o | o | o
      · exact Or.inl o
      · exact Or.inr (Or.inl o)
      · exact Or.inr (Or.inr (Or.inl o))
      · exact Or.inr (Or.inr (Or.inr (Or.inl o)))
      · exact Or.inr (Or.inr (Or.inr (Or.inr (by omega))))
    · exact Or.inr (Or.inr (Or.inr (Or.inr (by omega))))
  exact ⟨by omega, hx1, k3, by omega, by omega, fun n hn => ⟨(k6 n hn).1, (k6 n hn).2.1, ho _ (k6 n hn).2.2⟩, Or.inl hx2⟩
/-- the held one that is expected is taken -/
theorem DK_unhold {Q : List Nat} {S E A : Nat} {h : Nat → Nat} {G : List Nat} {z : Nat} (hE : h E ≠ 0) (hk : DK Q S E A h G z) : DK Q S (hx (h E) E) A (fun i => if i = E then 0 else h i) G z := by
  obtain ⟨k1, k2, k3, k4, k5, k6, k7⟩ := hk
  obtain ⟨g1, g2, g3⟩ := k6 E hE
  have hgt := hx_gt (h E) E
  have ho : ∀ x, okx Q S E h G z x → okx Q S (hx (h E) E) (fun i => if i = E then 0 else h i) G z x := fun x o => by
    rcases o with o | o | o | o | o
    · exact Or.inl o
    · by_cases e : x = E
      · exact Or.inr (Or.inr (Or.inr (Or.inr (by omega))))
      · refine Or.inr (Or.inl ?_)
        show (if x = E then 0 else h x) ≠ 0
        rw [if_neg e]
        exact o
    · exact Or.inr (Or.inr (Or.inl o))
    · exact Or.inr (Or.inr (Or.inr (Or.inl o)))
    · exact Or.inr (Or.inr (Or.inr (Or.inr (by omega))))
  refine ⟨by omega, g2, k3, by omega, by omega, fun n hn => ?_, ho _ g3⟩
  have hn2 : (if n = E then 0 else h n) ≠ 0 := hn
  by_cases e : n = E
  · rw [if_pos e] at hn2; exact absurd rfl hn2
  · rw [if_neg e] at hn2
    show n ≤ S ∧ hx (if n = E then 0 else h n) n ≤ S + 1 ∧ okx Q S _ _ G z (hx (if n = E then 0 else h n) n)
    rw [if_neg e]
    exact ⟨(k6 n hn2).1, (k6 n hn2).2.1, ho _ (k6 n hn2).2.2⟩
/-- what is held below what is expected is thrown away -/
theorem DK_throw {Q : List Nat} {S E A : Nat} {h h' : Nat → Nat} {G : List Nat} {z : Nat} (hh : ∀ n, h' n = if n < E then 0 else h n) (hk : DK Q S E A h G z) : DK Q S E A h' G z := by
  obtain ⟨k1, k2, k3, k4, k5, k6, k7⟩ := hk
  have ho : ∀ x, okx Q S E h G z x → okx Q S E h' G z x := fun x o => by
    rcases o with o | o | o
    · exact Or.inl o
    · by_cases e : x < E
      · exact Or.inr (Or.inr (Or.inr (Or.inr e)))
      · exact Or.inr (Or.inl (by rw [hh, if_neg e]; exact o))
    · exact Or.inr (Or.inr o)
  refine ⟨k1, k2, k3, k4, k5, fun n hn => ?_, ho _ k7⟩
  rw [hh] at hn
  by_cases e : n < E
  · rw [if_pos e] at hn; exact absurd rfl hn
  · rw [if_neg e] at hn
    rw [hh, if_neg e]
    exact ⟨(k6 n hn).1, (k6 n hn).2.1, ho _ (k6 n hn).2.2⟩
theorem DK_ask {Q : List Nat} {S E A : Nat} {h : Nat → Nat} {G : List Nat} {z : Nat} (hE : E ≤ S) (hk : DK Q S E A h G z) : DK Q S E E h G z := by
  obtain ⟨k1, k2, k3, k4, k5, k6, k7⟩ := hk
  exact ⟨k1, k2, k3, k4, Or.inr ⟨k4, Nat.le_refl _, hE⟩, k6, k7⟩
theorem DK_h {Q : List Nat} {S E A : Nat} {h h' : Nat → Nat} {G : List Nat} {z : Nat} (hh : ∀ n, h' n = h n) (hk : DK Q S E A h G z) : DK Q S E A h' G z := by
  have : h' = h := funext hh
  rw [this]
  exact hk
/-- time passes; the numbers of calls grow -/
theorem DQ_tick {VB nP nC : Nat} {Q : List Nat} {S E A AT T T' r : Nat} {L : List (List Nat)} {b tb : Nat} (h : DQ VB nP nC 2 Q S E A AT T r L b tb) : DQ VB nP nC 2 Q S E A AT T' r L b tb := by
  obtain ⟨h1, h2, h3, h4, h5, h6, h7, h8, h9, h10⟩ := h
  rw [if_pos (Or.inl rfl)] at h9
  rw [if_neg (fun h => absurd h.1 (by decide))] at h10
  refine ⟨h1, h2, h3, h4, h5, h6, h7, h8, ?_, ?_⟩
  · rw [if_pos (Or.inl rfl)]; exact h9
  · rw [if_neg (fun h => absurd h.1 (by decide))]; exact h10
theorem DQ_calls {VB VB' nP nP' nC nC' ic ic' : Nat} {Q : List Nat} {S E A AT T r : Nat} {L : List (List Nat)} {b tb : Nat} (hV : VB ≤ VB') (hP : nP ≤ nP') (hC : nC ≤ nC') (h1 : ic' = 1 → ic = 1 ∨ nC + 1 ≤ nC') (h2 : ic' = 2 → ic = 2 ∨ nP + 1 ≤ nP') (h : DQ VB nP nC ic Q S E A AT T r L b tb) : DQ VB' nP' nC' ic' Q S E A AT T r L b tb := by
  obtain ⟨g1, g2, g3, g4, g5, g6, g7, g8, g9, g10⟩ := h
  refine ⟨g1, g2, sfx_mono hV (Nat.le_refl _) g3, g4, g5, g6, g7, g8, ?_, ?_⟩
  · by_cases c : ic' = 2
    · rcases h2 c with e | e
      · rw [if_pos (Or.inl e)] at g9
        rw [if_pos (Or.inl c)]
        omega
      · rw [if_pos (Or.inl c)]
        split at g9 <;> omega
    · by_cases c1 : AT < T
      · rw [if_pos (Or.inr c1)] at g9 ⊢
        omega
      · rw [if_neg (fun h => h.elim c c1)]
        split at g9 <;> omega
  · by_cases c : ic' = 1 ∧ AT < T
    · rw [if_pos c]
      rcases h1 c.1 with e | e
      · rw [if_pos ⟨e, c.2⟩] at g10
        omega
      · split at g10 <;> omega
    · rw [if_neg c]
      split at g10 <;> omega
/-- the line goes down, or comes up -/
theorem DQ_new {VB nP nC ic : Nat} {Q : List Nat} {S S' E E' A AT T r : Nat} {L : List (List Nat)} {b tb : Nat} (hE : 1 ≤ E') (h : DQ VB nP nC ic Q S E A AT T r L b tb) : DQ VB nP nC ic [] S' E' 0 AT T 0 [[]] 0 0 := by
  obtain ⟨g1, g2, g3, g4, g5, g6, g7, g8, g9, g10⟩ := h
  refine ⟨rfl, by simp, ⟨Nat.zero_le _, trivial⟩, fun l hl => ?_, fun c hc => by (cases hc), trivial, ?_, fun _ c => by omega, by omega, by omega⟩
  · have : l = [] := by simpa using hl
    subst this
    trivial
  · rw [if_pos (Or.inr (by omega))]
    decide
theorem DK_new {S E : Nat} {h : Nat → Nat} (hh : ∀ n, h n = 0) (h1 : 1 ≤ E) (h2 : E ≤ S + 1) : DK [] S E 0 h [] E :=
  ⟨h1, h2, h1, Nat.le_refl _, Or.inl rfl, fun n hn => absurd (hh n) hn, Or.inr (Or.inr (Or.inr (Or.inl rfl)))⟩
