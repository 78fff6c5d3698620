/-! An answer, counted. -/
theorem gGoes_o (a : AS) (s n f k i : Nat) (h1 : k ≠ 21) (h2 : ¬ (k = 20 ∧ i = 1 - s)) (h3 : ¬ (k = 9 ∧ i = s)) : gGoes a s n f k i = a k i := by
  unfold gGoes
  rw [up2_n _ _ (by omega), up2_n _ _ (by omega), up2_n _ _ (by omega)]
theorem gGoes_9 (a : AS) (s n f : Nat) : gGoes a s n f 9 s = a 0 1 := up2_s _ _ _ _
theorem gAns1_o (s : Nat) (x : AS × Nat) (n k i : Nat) (h1 : k ≠ 21) (h2 : ¬ (k = 20 ∧ i = 1 - s)) (h3 : ¬ (k = 9 ∧ i = s)) (h4 : k ≠ 29) (h5 : k ≠ 13) : (gAns1 s x n).1 k i = x.1 k i := by
  unfold gAns1
  split
  · exact gLeave_k _ _ _ _ h4
  · show gGoes _ s n 0 k i = _
    rw [gGoes_o _ _ _ _ _ _ h1 h2 h3, up2_n _ _ (by omega)]
    split
    · rw [gGoes_o _ _ _ _ _ _ h1 h2 h3]; exact gLeave_k _ _ _ _ h4
    · exact gLeave_k _ _ _ _ h4
theorem gAns1_9 (s : Nat) (x : AS × Nat) (n : Nat) : (gAns1 s x n).1 9 s = x.1 9 s ∨ (gAns1 s x n).1 9 s = x.1 0 1 := by
  unfold gAns1
  split
  · exact Or.inl (gLeave_k _ _ _ _ (by decide))
  · refine Or.inr ?_
    show gGoes _ s n 0 9 s = _
    rw [gGoes_9, up2_n _ _ (by omega)]
    split
    · rw [gGoes_k _ _ _ _ _ _ (by decide) (by decide) (by decide)]; exact gLeave_k _ _ _ _ (by decide)
    · exact gLeave_k _ _ _ _ (by decide)
theorem gAns_o {s last : Nat} : ∀ (d n : Nat) (x : AS × Nat) (k i : Nat), k ≠ 21 → ¬ (k = 20 ∧ i = 1 - s) → ¬ (k = 9 ∧ i = s) → k ≠ 29 → k ≠ 13 → (gAnsE s last (gAnsL s d n x)) k i = x.1 k i := by
  intro d
  induction d with
  | zero =>
    intro n x k i h1 h2 h3 h4 h5
    show (gAnsE s last x) k i = _
    unfold gAnsE
    split
    · exact gGoes_o _ _ _ _ _ _ h1 h2 h3
    · rfl
  | succ d ih =>
    intro n x k i h1 h2 h3 h4 h5
    exact (ih (n + 1) (gAns1 s x n) k i h1 h2 h3 h4 h5).trans (gAns1_o s x n k i h1 h2 h3 h4 h5)
theorem gAns_9' {s last : Nat} : ∀ (d n : Nat) (x : AS × Nat), (gAnsE s last (gAnsL s d n x)) 9 s = x.1 9 s ∨ (gAnsE s last (gAnsL s d n x)) 9 s = x.1 0 1 := by
  intro d
  induction d with
  | zero =>
    intro n x
    show (gAnsE s last x) 9 s = _ ∨ (gAnsE s last x) 9 s = _
    unfold gAnsE
    split
    · exact Or.inr (gGoes_9 _ _ _ _)
    · exact Or.inl rfl
  | succ d ih =>
    intro n x
    have e01 : (gAns1 s x n).1 0 1 = x.1 0 1 := gAns1_o s x n 0 1 (by decide) (by omega) (by omega) (by decide) (by decide)
    rcases ih (n + 1) (gAns1 s x n) with h | h
    · rcases gAns1_9 s x n with h2 | h2
      · exact Or.inl (h.trans h2)
      · exact Or.inr (h.trans h2)
    · exact Or.inr (h.trans e01)
theorem gAns_20 {s last : Nat} : ∀ (d n : Nat) (x : AS × Nat) (h k : Nat), ansI x.1 s h k → k + 2 * d + 2 < 2 ^ 30 → ∃ k', (gAnsE s last (gAnsL s d n x)) 20 (1 - s) = nI k' ∧ k' < 2 ^ 30 := by
  intro d
  induction d with
  | zero =>
    intro n x h k e hk
    show ∃ k', (gAnsE s last x) 20 (1 - s) = nI k' ∧ _
    unfold gAnsE
    split
    · refine ⟨k + 1, gGoes_20 _ _ _ _ k e.2.2 (by omega), by omega⟩
    · exact ⟨k, e.2.2, by omega⟩
  | succ d ih =>
    intro n x h k e hk
    obtain ⟨k', g1, g2, g3⟩ := gAns1_r s x n h k e (by omega)
    exact ih (n + 1) (gAns1 s x n) h k' g1 (by omega)
theorem gAnswers_o (a : AS) (s g k i : Nat) (h1 : k ≠ 21) (h2 : ¬ (k = 20 ∧ i = 1 - s)) (h3 : ¬ (k = 9 ∧ i = s)) (h4 : k ≠ 29) (h5 : k ≠ 13) : gAnswers a s g k i = a k i := gAns_o _ _ _ _ _ h1 h2 h3 h4 h5
theorem gAnswers_r (a : AS) (s g k : Nat) (h1 : k ≠ 29) (h2 : k ≠ 21) (h3 : k ≠ 20) (h4 : k ≠ 9) (h5 : k ≠ 13) : gAnswers a s g k = a k := funext fun i => gAnswers_k a s g k i h1 h2 h3 h4 h5
theorem svS_ans {a : AS} {s g t c' : Nat} (hs : s < 2) (ht : t < 2) (hT : ∃ T : Nat, a 0 1 = nI T ∧ T ≤ 30000) (hup : a 0 2 ≠ nI 0) (h20 : gAnswers a s g 20 (1 - s) = nI c') (hc' : c' ≤ 65536) (h10 : tn (a 10 s) = tn (a 0 1)) (h : svS a t) : svS (gAnswers a s g) t := by
  obtain ⟨v1, v2, v3, v4, v5, v6, v7, v8, v9, v10, v11⟩ := h
  have r : ∀ k, k ≠ 29 → k ≠ 21 → k ≠ 20 → k ≠ 9 → k ≠ 13 → gAnswers a s g k = a k := gAnswers_r a s g
  obtain ⟨T, eT, hT⟩ := hT
  have e9 : t ≠ s → gAnswers a s g 9 t = a 9 t := fun h => gAnswers_o _ _ _ _ _ (by decide) (by omega) (by omega) (by decide) (by decide)
  have e9' : gAnswers a s g 9 s = a 9 s ∨ gAnswers a s g 9 s = a 0 1 := gAns_9' _ _ _
  unfold svS
  rw [r 4 (by decide) (by decide) (by decide) (by decide) (by decide), r 5 (by decide) (by decide) (by decide) (by decide) (by decide), r 7 (by decide) (by decide) (by decide) (by decide) (by decide), r 3 (by decide) (by decide) (by decide) (by decide) (by decide), r 0 (by decide) (by decide) (by decide) (by decide) (by decide), r 11 (by decide) (by decide) (by decide) (by decide) (by decide), r 18 (by decide) (by decide) (by decide) (by decide) (by decide), r 19 (by decide) (by decide) (by decide) (by decide) (by decide)]
  refine ⟨v1, v2, v3, fun k hk => ?_, v5, ?_, v7, fun hd => absurd hd hup, fun _ => hup, v10, v11⟩
  · by_cases c : k = 9
    · subst c
      by_cases c1 : t = s
      · subst c1
        rcases e9' with e | e
        · rw [e]; exact v4 9 (by omega)
        · rw [e]; exact ⟨T, eT, by rw [eT, tnI (by omega)]; exact Nat.le_refl _⟩
      · rw [e9 c1]; exact v4 9 (by omega)
    · rw [r k (by omega) (by omega) (by omega) c (by omega)]
      exact v4 k hk
  · by_cases c1 : t = s
    · rw [gAnswers_o _ _ _ _ _ (by decide) (by omega) (by omega) (by decide) (by decide)]; exact v6
    · have : t = 1 - s := by omega
      rw [this]
      exact ⟨c', h20, hc'⟩
theorem ans_V {n : Nat → Nat} {fl rem l0 l1 : Nat} {a : AS} {gG : Nat → List Nat} {s g : Nat} (hs : s < 2) (hv : sv a) (hp : pot n fl rem l0 l1 a gG) (hg : 1 ≤ g) : ansN s (tn (a 4 s) + 1 - g) g (a, 0) ≤ vB n (1 - s) := by
  obtain ⟨⟨S, e4, hS⟩, -, -, -, -, -, -, -, -, v10, -⟩ := hv.2.2 s hs
  obtain ⟨h1, h2⟩ := ansN_log (a := a) (s := s) (g := g) (last := tn (a 4 s)) hg (fun m m1 m2 => by
    obtain ⟨kd, ek, hk, -⟩ := v10 m (by omega) m2
    rw [ek]
    exact nIb _ (by omega))
  obtain ⟨p1, p2, p3, p4⟩ := hp
  have hr := runs_alt (kF a s) (tn (a 4 s))
  rcases (show s = 0 ∨ s = 1 by omega) with rfl | rfl
  · show _ ≤ vB n 1
    unfold vB
    rw [if_neg (by decide)]
    have e1 : apF (kF a 0) (tn (a 4 0)) = VA a := rfl
    have e2 : srF (kF a 0) (tn (a 4 0)) ≤ VS fl a := by
      unfold VS
      exact Nat.le_add_right _ _
    rw [e1] at h1 hr
    omega
  · show _ ≤ vB n 0
    unfold vB
    rw [if_pos rfl]
    have e1 : 2 * apF (kF a 1) (tn (a 4 1)) + 2 * grF (kF a 1) (tn (a 4 1)) + tn (a 4 1) ≤ VH fl a (gG 1) := by
      unfold VH VHl lgN
      omega
    omega
theorem SIp_ans {n : Nat → Nat} {fl rem l0 l1 : Nat} {a : AS} {s c g : Nat} (hs : s < 2) (hn : sm8 n ≤ 512) (hO : n 4 ≤ 40) (h : SIp n fl rem l0 l1 a s c 1) : tn (a 20 (1 - s)) + ansN s (tn (a 4 s) + 1 - max g 1) (max g 1) (a, 0) ≤ 64100 ∧ SIp n fl rem l0 l1 (gAnswers a s g) s c 0 := by
  obtain ⟨hv, hon, h10, hup, gL, gb, gt, gG, gz, dq, dk, p3, p4, p5, p6, ⟨oq1, ok1, oo1⟩, hp⟩ := h
  have es : 1 - (1 - s) = s := by omega
  have hV := ans_V (g := max g 1) hs hv hp (by omega)
  obtain ⟨⟨S, e4, hS⟩, -, -, -, ⟨H, e19, hH⟩, ⟨cc, e20, hcc⟩, -⟩ := hv.2.2 s hs
  obtain ⟨-, -, -, -, ⟨H', e19', hH'⟩, ⟨cc', e20', hcc'⟩, -⟩ := hv.2.2 (1 - s) (by omega)
  have etn : tn (a 4 s) = S := by rw [e4, tnI (by omega)]
  -- the room
  obtain ⟨g1, g2, g3, g4, g5, g6, g7, g8, g9, g10⟩ := id oq1
  have hlen := sfx_len g3
  rw [g1, QL_len, es] at hlen
  have hb := bnd (n := n) (Y := 1 - s) (u := (gL (1 - s)).length + 1) (tb := gt (1 - s)) (lv := lgN a s) hn hO (by omega) (by omega) (by omega) (by omega) (by have := lvBd (Y := 1 - s) hn hO (by omega) hp; rw [es] at this; exact this)
  rw [Nat.add_mul, Nat.one_mul] at hb
  have hroom : tn (a 20 (1 - s)) + ansN s (tn (a 4 s) + 1 - max g 1) (max g 1) (a, 0) ≤ 64100 := by omega
  refine ⟨hroom, ?_⟩
  -- the block
  have hblk : ∃ bl : List Nat, QL (gAnswers a s g) (1 - s) = QL a (1 - s) ++ bl ∧ QL (gAnswers a s g) s = QL a s ∧ bl.length = ansN s (tn (a 4 s) + 1 - max g 1) (max g 1) (a, 0) ∧ (blk S (max g 1) bl ∨ bl = []) ∧ ∀ c, c ∈ bl → c % 2 = 0 ∧ (cEf c = 0 → 5 ≤ kF a s (cEn c)) := by
    unfold gAnswers
    rw [etn] at hroom ⊢
    by_cases cg : max g 1 ≤ S + 1
    · obtain ⟨bl, b1, b2, b3, b4, b5⟩ := QL_ans (s := s) (last := S) hs hS (S + 1 - max g 1) (max g 1) (a, 0) (by omega) (by omega) (by show 0 < max g 1; omega) (by show tn (a 20 (1 - s)) + _ ≤ _; omega) (fun m m1 m2 => by
        obtain ⟨kd, ek, hk, -⟩ := (hv.2.2 s hs).2.2.2.2.2.2.2.2.2.1 m (by omega) (by omega)
        show ¬ a 11 (8192 * s + m) < 0
        rw [ek]
        exact nIb _ (by omega))
      exact ⟨bl, b1, b2, b3, Or.inl b4, b5⟩
    · rw [show S + 1 - max g 1 = 0 by omega]
      exact ⟨[], by simp [gAnsL, gAnsE], rfl, rfl, Or.inr rfl, fun c hc => by cases hc⟩
  obtain ⟨bl, b1, b2, b3, b4, b5⟩ := hblk
  obtain ⟨k', k1, k2⟩ : ∃ k', gAnswers a s g 20 (1 - s) = nI k' ∧ k' < 2 ^ 30 := gAns_20 _ _ (a, 0) H' cc' ⟨e19', hH', e20'⟩ (by rw [etn]; omega)
  have hk' : k' ≤ 65536 := by
    have := QL_len (gAnswers a s g) (1 - s)
    rw [b1, List.length_append, QL_len, k1, tnI (by omega), b3] at this
    omega
  have r : ∀ k, k ≠ 29 → k ≠ 21 → k ≠ 20 → k ≠ 9 → k ≠ 13 → gAnswers a s g k = a k := gAnswers_r a s g
  have r0 := r 0 (by decide) (by decide) (by decide) (by decide) (by decide)
  have r3 := r 3 (by decide) (by decide) (by decide) (by decide) (by decide)
  have r4 := r 4 (by decide) (by decide) (by decide) (by decide) (by decide)
  have r5 := r 5 (by decide) (by decide) (by decide) (by decide) (by decide)
  have r7 := r 7 (by decide) (by decide) (by decide) (by decide) (by decide)
  have r8 := r 8 (by decide) (by decide) (by decide) (by decide) (by decide)
  have r10 := r 10 (by decide) (by decide) (by decide) (by decide) (by decide)
  have r11 := r 11 (by decide) (by decide) (by decide) (by decide) (by decide)
  have r18 := r 18 (by decide) (by decide) (by decide) (by decide) (by decide)
  have svb : sv (gAnswers a s g) := by
    refine ⟨by rw [r0]; exact hv.1, by rw [r0]; exact hv.2.1, fun t ht => svS_ans hs ht hv.1 hup k1 hk' h10 (hv.2.2 t ht)⟩
  have e4' : ∀ t, lgN (gAnswers a s g) t = lgN a t := fun t => by unfold lgN; rw [r4]
  have eh : ∀ t n, hN (gAnswers a s g) t n = hN a t n := fun t n => by unfold hN; rw [r18]
  have hall : ∀ c, c ∈ bl → 1 ≤ cEn c ∧ cEn c ≤ S := fun c hc => by
    rcases b4 with b4 | b4
    · have := blk_all b4 c hc; omega
    · rw [b4] at hc; cases hc
  have ers : rsN (gAnswers a s g) s ≤ rsN a s := by
    unfold rsN
    rw [b1, cntL_app]
    have e1 : isR (gAnswers a s g) s = isR a s := by unfold isR kF; rw [r11]
    rw [e1]
    have : cntL (isR a s) bl = 0 := by
      have hz : ∀ q : List Nat, (∀ c, c ∈ q → isR a s c = false) → cntL (isR a s) q = 0 := by
        intro q
        induction q with
        | nil => exact fun _ => rfl
        | cons c q ih =>
          intro hq
          show (if isR a s c = true then 1 else 0) + cntL (isR a s) q = 0
          rw [hq c (List.mem_cons_self ..), ih (fun c hc => hq c (List.mem_cons_of_mem _ hc))]
          rfl
      refine hz bl (fun c hc => ?_)
      unfold isR
      by_cases c0 : cEf c = 0
      · have := (b5 c hc).2 c0
        rw [decide_eq_false (show ¬ kF a s (cEn c) = 3 by omega), Bool.and_false]
      · rw [decide_eq_false c0, Bool.false_and]
    omega
  have ero : rsN (gAnswers a s g) (1 - s) = rsN a (1 - s) := rsN_of (by rw [es]; exact b2) r11
  refine ⟨svb, by rw [r3]; exact hon, by rw [r10, r0]; exact h10, by rw [r0]; exact hup, fun Y => if Y = s then gL s else gL Y ++ [bl], gb, gt, gG, gz, ?_, ?_, ?_, ?_, ?_, ?_, ?_, ?_⟩
  · simp only [if_true]
    rw [e4', r5, r7, r8, r0, b2]
    exact DQ_r ers dq
  · rw [e4', r5, r7, b2]
    exact DK_h (eh s) dk
  · simp only [if_true]; exact p3
  · rw [r5, r7]; exact p4
  · rw [e4']; exact p5
  · rw [e4', b2]; exact p6
  · have hne : ¬ 1 - s = s := by omega
    simp only [if_neg hne]
    have hlg : lgN a s = S := etn
    unfold DIr
    rw [b1, e4', r5, r7, r8, r0, r3, ero, es, hlg]
    rw [es, hlg] at oq1 ok1
    exact ⟨DQ_blk (k := max g 1) b4 (by omega) (by rw [b3]; exact hV) oq1, DK_h (eh _) (DK_blk (fun c hc => (hall c hc).2) ok1), fun h => ⟨fun n => (eh _ n).trans ((oo1 h).1 n), (oo1 h).2⟩⟩
  · obtain ⟨p1, p2, p3', p4'⟩ := hp
    obtain ⟨f1, f2⟩ := VS_eq (fl := fl) (a := a) (b := gAnswers a s g) r4 r11
    have hbl : cntL isG bl = 0 := by
      have hz : ∀ q : List Nat, (∀ c, c ∈ q → c % 2 = 0) → cntL isG q = 0 := by
        intro q
        induction q with
        | nil => exact fun _ => rfl
        | cons c q ih =>
          intro hq
          show (if isG c = true then 1 else 0) + cntL isG q = 0
          rw [if_neg (fun h => by have := isG_c.mp h; have := hq c (List.mem_cons_self ..); omega), ih (fun c hc => hq c (List.mem_cons_of_mem _ hc))]
      exact hz bl (fun c hc => (b5 c hc).1)
    have e7 : ∀ t G, t < 2 → gqN (gAnswers a s g) t G = gqN a t G := fun t G ht => by
      unfold gqN
      rw [r7]
      by_cases c1 : t = s
      · rw [c1, b2]
      · have : t = 1 - s := by omega
        rw [this, b1, cntL_app, hbl]
        omega
    have eeta : ∀ t, etaN (gAnswers a s g) t = etaN a t := fun t => by unfold etaN; rw [r0, r7]
    have elt : ∀ t, lateN (gAnswers a s g) t = lateN a t := fun t => by unfold lateN; rw [r0, r8]
    have ela : laN (gAnswers a s g) = laN a := by unfold laN lgN kF; rw [r4, r11]
    have eq10 : ∀ t, quN (gAnswers a s g) 10 t = quN a 10 t := fun t => by unfold quN; rw [r0, r10]
    have h9s : gAnswers a s g 9 s = a 9 s ∨ gAnswers a s g 9 s = a 0 1 := gAns_9' _ _ _
    have eq9 : ∀ t, quN (gAnswers a s g) 9 t ≤ quN a 9 t := fun t => by
      unfold quN
      rw [r0]
      by_cases c1 : t = s
      · rw [c1]
        rcases h9s with e | e <;> rw [e] <;> omega
      · rw [gAnswers_o _ _ _ _ _ (by decide) (by omega) (by omega) (by decide) (by decide)]
        exact Nat.le_refl _
    have eph : phN fl (gAnswers a s g) ≤ phN fl a := by
      unfold phN
      rw [r0, r3, eq10, eq10, ela, elt]
      rcases (show s = 0 ∨ s = 1 by omega) with rfl | rfl
      · have e200 : gAnswers a 0 g 20 0 = a 20 0 := gAnswers_o _ _ _ _ _ (by decide) (by decide) (by decide) (by decide) (by decide)
        have e91 : quN (gAnswers a 0 g) 9 1 = quN a 9 1 := by
          unfold quN
          rw [r0, gAnswers_o _ _ _ _ _ (by decide) (by decide) (by decide) (by decide) (by decide)]
        rw [e200, e91]
        exact Nat.le_refl _
      · exact (phX_send (la' := laN a) (eq9 1)).1 (fun h => hon ((tn0 (nn01 (hv.2.2 1 hs).2.2.2.2.2.2.1)).mp h))
    have x1 := VH_eq (fl := fl) (a := a) (b := gAnswers a s g) (G := gG 1) (G' := gG 1) r4 r11 (by rw [r5]) (by rw [r0]) (r 24 (by decide) (by decide) (by decide) (by decide) (by decide)) (r 26 (by decide) (by decide) (by decide) (by decide) (by decide)) (r 27 (by decide) (by decide) (by decide) (by decide) (by decide)) (r 28 (by decide) (by decide) (by decide) (by decide) (by decide)) (r 34 (by decide) (by decide) (by decide) (by decide) (by decide))
    have x2 := VT_le (fl := fl) (a := a) (b := gAnswers a s g) (G := gG 0) (G' := gG 0) r4 r11 (by rw [r5]) (eq9 0) (by rw [eq10]; exact Nat.le_refl _) (by rw [eq10]; exact Nat.le_refl _) (by rw [elt]; exact Nat.le_refl _)
    rw [eeta, e7 1 _ (by decide)] at x1
    rw [eeta, e7 0 _ (by decide)] at x2
    exact ⟨by omega, by omega, by rw [f1]; exact p3', by rw [f2]; exact p4'⟩
