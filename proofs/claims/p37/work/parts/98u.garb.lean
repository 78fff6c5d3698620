/-! An entry is garbled: the numbers stay. -/
def smq : List Nat → List Nat → Prop
  | [], [] => True
  | c :: q, d :: r => (cEn d = cEn c ∧ cEf d = cEf c) ∧ smq q r
  | [], _ :: _ => False
  | _ :: _, [] => False
theorem sm_nx {c d : Nat} (h : cEn d = cEn c ∧ cEf d = cEf c) : cNx d = cNx c := by
  unfold cNx
  rw [h.1, h.2]
theorem sm_refl : ∀ q : List Nat, smq q q
  | [] => trivial
  | _ :: q => ⟨⟨rfl, rfl⟩, sm_refl q⟩
theorem sm_mid {c d : Nat} (h : cEn d = cEn c ∧ cEf d = cEf c) (r : List Nat) : ∀ l : List Nat, smq (l ++ c :: r) (l ++ d :: r)
  | [] => ⟨h, sm_refl r⟩
  | _ :: l => ⟨⟨rfl, rfl⟩, sm_mid h r l⟩
theorem sm_NX {x S : Nat} : ∀ {q r : List Nat}, smq q r → NXq x q S → NXq x r S
  | [], [], _, h => h
  | c :: q, d :: r, hs, h => by
    have h' : if cEn c < x then NXq x q S else cEn c = x := h
    show if cEn d < x then NXq x r S else cEn d = x
    rw [hs.1.1]
    by_cases c1 : cEn c < x
    · rw [if_pos c1] at h' ⊢; exact sm_NX hs.2 h'
    · rw [if_neg c1] at h' ⊢; exact h'
theorem sm_chn {S : Nat} : ∀ {q r : List Nat}, smq q r → chn S q → chn S r
  | [], [], _, h => h
  | c :: q, d :: r, hs, h => by
    refine ⟨?_, sm_chn hs.2 h.2⟩
    rw [sm_nx hs.1]
    exact sm_NX hs.2 h.1
theorem sm_inc : ∀ {m : Nat} {q r : List Nat}, smq q r → inc m q → inc m r
  | _, [], [], _, h => h
  | m, c :: q, d :: r, hs, h => by
    show m ≤ cEn d ∧ inc (cEn d + 1) r
    rw [hs.1.1]
    exact ⟨h.1, sm_inc hs.2 h.2⟩
theorem sm_len : ∀ {q r : List Nat}, smq q r → r.length = q.length
  | [], [], _ => rfl
  | _ :: _, _ :: _, hs => congrArg (· + 1) (sm_len hs.2)
theorem sm_cnt {p : Nat → Bool} (hp : ∀ c d, cEn d = cEn c ∧ cEf d = cEf c → p d = p c) : ∀ {q r : List Nat}, smq q r → cntL p r = cntL p q
  | [], [], _ => rfl
  | c :: q, d :: r, hs => by
    show (if p d then 1 else 0) + cntL p r = (if p c then 1 else 0) + cntL p q
    rw [hp c d hs.1, sm_cnt hp hs.2]
theorem sm_mem : ∀ {q r : List Nat}, smq q r → ∀ d, d ∈ r → ∃ c, c ∈ q ∧ cEn d = cEn c ∧ cEf d = cEf c
  | [], [], _, _, h => by cases h
  | c :: q, d :: r, hs, x, h => by
    rcases List.mem_cons.mp h with rfl | h'
    · exact ⟨c, List.mem_cons_self .., hs.1⟩
    · obtain ⟨c', h1, h2⟩ := sm_mem hs.2 x h'
      exact ⟨c', List.mem_cons_of_mem _ h1, h2⟩
theorem sm_split : ∀ {l q r : List Nat}, smq (l ++ q) r → ∃ r1 r2, r = r1 ++ r2 ∧ smq l r1 ∧ smq q r2
  | [], q, r, h => ⟨[], r, rfl, trivial, h⟩
  | c :: l, q, [], h => h.elim
  | c :: l, q, d :: r, h => by
    obtain ⟨r1, r2, e, h1, h2⟩ := sm_split (l := l) (q := q) (r := r) h.2
    exact ⟨d :: r1, r2, by rw [e]; rfl, ⟨h.1, h1⟩, h2⟩
def smL : List (List Nat) → List (List Nat) → Prop
  | [], [] => True
  | l :: L, m :: M => smq l m ∧ smL L M
  | [], _ :: _ => False
  | _ :: _, [] => False
theorem smL_ex : ∀ (L : List (List Nat)) (Q : List Nat), smq (cat L) Q → ∃ M, cat M = Q ∧ smL L M
  | [], [], _ => ⟨[], rfl, trivial⟩
  | [], _ :: _, h => h.elim
  | l :: L, Q, h => by
    obtain ⟨r1, r2, e, h1, h2⟩ := sm_split (l := l) (q := cat L) (r := Q) h
    obtain ⟨M, e2, h3⟩ := smL_ex L r2 h2
    exact ⟨r1 :: M, by rw [e, ← e2]; rfl, h1, h3⟩
theorem smL_len : ∀ {L M : List (List Nat)}, smL L M → M.length = L.length ∧ (cat M).length = (cat L).length
  | [], [], _ => ⟨rfl, rfl⟩
  | l :: L, m :: M, h => by
    obtain ⟨h1, h2⟩ := smL_len h.2
    refine ⟨congrArg (· + 1) h1, ?_⟩
    show (m ++ cat M).length = (l ++ cat L).length
    rw [List.length_append, List.length_append, h2, sm_len h.1]
theorem smL_sfx {V lv : Nat} : ∀ {L M : List (List Nat)}, smL L M → sfx V lv L → sfx V lv M
  | [], [], _, h => h
  | l :: L, m :: M, hs, h => by
    obtain ⟨h1, h2⟩ := smL_len hs.2
    refine ⟨?_, smL_sfx hs.2 h.2⟩
    have := h.1
    rw [h1, h2, sm_len hs.1]
    exact this
theorem smL_inc : ∀ {L M : List (List Nat)}, smL L M → incA L → incA M
  | [], [], _, h => h
  | l :: L, m :: M, hs, h => fun x hx => by
    rcases List.mem_cons.mp hx with rfl | h'
    · exact sm_inc hs.1 (h l (List.mem_cons_self ..))
    · exact smL_inc hs.2 (fun y hy => h y (List.mem_cons_of_mem _ hy)) x h'
theorem DQ_sm {VB nP nC ic : Nat} {Q Q' : List Nat} {S E A AT T r : Nat} {L : List (List Nat)} {b tb : Nat} (hs : smq Q Q') (h : DQ VB nP nC ic Q S E A AT T r L b tb) : ∃ L', DQ VB nP nC ic Q' S E A AT T r L' b tb := by
  obtain ⟨h1, h2, h3, h4, h5, h6, h7, h8, h9, h10⟩ := h
  obtain ⟨M, e, hM⟩ := smL_ex L Q' (by rw [h1]; exact hs)
  have hl := (smL_len hM).1
  refine ⟨M, e, fun c => ?_, smL_sfx hM h3, smL_inc hM h4, fun d hd => ?_, sm_chn hs h6, by rw [hl]; exact h7, fun c1 c2 m R hm d hd => ?_, h9, h10⟩
  · rw [c] at hl
    exact h2 (List.length_eq_zero_iff.mp hl.symm)
  · obtain ⟨c, hc, g⟩ := sm_mem hs d hd
    have := h5 c hc
    rw [g.1, g.2, sm_nx g]
    exact this
  · subst hm
    cases L with
    | nil => exact absurd rfl h2
    | cons l L =>
      obtain ⟨c, hc, g⟩ := sm_mem hM.1 d hd
      rw [g.1]
      exact h8 c1 c2 l L rfl c hc
theorem DK_sm {Q Q' : List Nat} {S E A : Nat} {h : Nat → Nat} {G : List Nat} {z : Nat} (hs : smq Q Q') (hk : DK Q S E A h G z) : DK Q' S E A h G z := by
  obtain ⟨k1, k2, k3, k4, k5, k6, k7⟩ := hk
  have e : ∀ x, okx Q S E h G z x → okx Q' S E h G z x := fun x hx => hx.elim (fun h => Or.inl (sm_NX hs h)) Or.inr
  exact ⟨k1, k2, k3, k4, k5, fun n hn => ⟨(k6 n hn).1, (k6 n hn).2.1, e _ (k6 n hn).2.2⟩, e _ k7⟩
theorem gGarble_r (a : AS) (s k q : Nat) (h : q ≠ 0) (h1 : q ≠ 21) : gGarble a s k q = a q := by
  unfold gGarble
  simp (disch := omega) only [up2, up1_n]
theorem gGarble_0 (a : AS) (s k i : Nat) (h : i ≠ 0) : gGarble a s k 0 i = a 0 i := by
  unfold gGarble
  rw [up2_n _ _ (by omega), up2_n _ _ (by omega)]
theorem SI_garble {n : Nat → Nat} {l0 l1 s k : Nat} {a : AS} (hn : sm8 n ≤ 512) (hO : n 4 ≤ 40) (hs : s < 2) (hk : k < tn (a 20 s)) (h : SI n 0 0 (l0 + 1) (l1 + 1) a) : SI n 0 0 l0 l1 (gGarble a s k) := by
  have hr := SI_room h hn hO
  obtain ⟨hv, gL, gb, gt, gG, gz, hD, p1, p2, p3, p4⟩ := h
  have r : ∀ q, q ≠ 0 → q ≠ 21 → gGarble a s k q = a q := gGarble_r a s k
  have r0 : ∀ i, i ≠ 0 → gGarble a s k 0 i = a 0 i := gGarble_0 a s k
  have hmem : tn (a 21 (pl a s k)) ∈ QL a s := by
    unfold QL
    rw [qf_split _ _ 0 k hk, Nat.zero_add]
    exact List.mem_append_right _ (List.mem_cons_self ..)
  have hb : tn (a 21 (pl a s k)) < 2 ^ 30 := by
    have h1 := (DI_q (hD s hs) _ hmem).2
    have h2 := (hr (1 - s) (by omega)).1
    unfold cEn at h1
    omega
  obtain ⟨⟨l, c, q, e1, e2⟩, e3⟩ := QL_garble hs hk (by have := (hr s hs).2; omega) hb
  have hc : cEn (c / 2 * 2 + 1) = cEn c ∧ cEf (c / 2 * 2 + 1) = cEf c := by
    unfold cEn cEf
    rw [show (c / 2 * 2 + 1) / 2 = c / 2 by omega]
    exact ⟨rfl, rfl⟩
  have hsm : ∀ Y, Y < 2 → smq (QL a Y) (QL (gGarble a s k) Y) := fun Y hY => by
    by_cases c1 : Y = s
    · rw [c1, e1, e2]; exact sm_mid hc q l
    · have : Y = 1 - s := by omega
      rw [this, e3]; exact sm_refl _
  have hG : ∀ Y, Y < 2 → cntL isG (QL (gGarble a s k) Y) ≤ cntL isG (QL a Y) + 1 := fun Y hY => by
    by_cases c1 : Y = s
    · rw [c1, e1, e2, cntL_app, cntL_app]
      show cntL isG l + ((if isG (c / 2 * 2 + 1) then 1 else 0) + cntL isG q) ≤ cntL isG l + ((if isG c then 1 else 0) + cntL isG q) + 1
      have : ∀ b : Bool, (if b then 1 else 0) ≤ 1 := by decide
      have := this (isG (c / 2 * 2 + 1))
      omega
    · have : Y = 1 - s := by omega
      rw [this, e3]; exact Nat.le_succ _
  have hDI : ∀ Y, Y < 2 → ∃ L', DI (vB n Y) (n 0) (n (1 + Y)) (icN 0 Y) (gGarble a s k) Y L' (gb Y) (gt Y) (gG Y) (gz Y) := fun Y hY => by
    obtain ⟨d1, d2, d3⟩ := hD Y hY
    obtain ⟨L', hL⟩ := DQ_sm (hsm Y hY) d1
    refine ⟨L', ?_⟩
    have ers : rsN (gGarble a s k) Y = rsN a Y := by
      unfold rsN
      have : isR (gGarble a s k) Y = isR a Y := by
        funext c
        unfold isR kF
        rw [r 11 (by decide) (by decide)]
      rw [this]
      refine sm_cnt (fun c d hcd => ?_) (hsm (1 - Y) (by omega))
      unfold isR
      rw [hcd.1, hcd.2]
    have eh : hN (gGarble a s k) Y = hN a Y := by
      funext i
      unfold hN
      rw [r 18 (by decide) (by decide)]
    have elg : lgN (gGarble a s k) (1 - Y) = lgN a (1 - Y) := by unfold lgN; rw [r 4 (by decide) (by decide)]
    unfold DI
    rw [ers, eh, elg, r 5 (by decide) (by decide), r 7 (by decide) (by decide), r 8 (by decide) (by decide), r 3 (by decide) (by decide), r0 1 (by decide)]
    exact ⟨hL, DK_sm (hsm Y hY) d2, d3⟩
  obtain ⟨L0, hL0⟩ := hDI 0 (by decide)
  obtain ⟨L1, hL1⟩ := hDI 1 (by decide)
  refine ⟨⟨by rw [r0 1 (by decide)]; exact hv.1, by rw [r0 2 (by decide)]; exact hv.2.1, fun t ht => ?_⟩, fun Y => if Y = 0 then L0 else L1, gb, gt, gG, gz, fun Y hY => ?_, ?_⟩
  · have := hv.2.2 t ht
    unfold svS at this ⊢
    rw [r 4 (by decide) (by decide), r 5 (by decide) (by decide), r 7 (by decide) (by decide), r 19 (by decide) (by decide), r 20 (by decide) (by decide), r 3 (by decide) (by decide), r 11 (by decide) (by decide), r 18 (by decide) (by decide), r0 1 (by decide), r0 2 (by decide)]
    obtain ⟨v1, v2, v3, v4, v5⟩ := this
    exact ⟨v1, v2, v3, fun q hq => by rw [r q (by omega) (by omega)]; exact v4 q hq, v5⟩
  · rcases (show Y = 0 ∨ Y = 1 by omega) with rfl | rfl
    · exact hL0
    · exact hL1
  · have g1 : ∀ Y, Y < 2 → gqN (gGarble a s k) Y (gG Y) ≤ gqN a Y (gG Y) + 1 := fun Y hY => by
      have := hG Y hY
      unfold gqN
      rw [r 7 (by decide) (by decide)]
      omega
    have g2 : ∀ Y, etaN (gGarble a s k) Y = etaN a Y := fun Y => by unfold etaN; rw [r 7 (by decide) (by decide), r0 2 (by decide)]
    have gq : ∀ z Y, z ≠ 0 → z ≠ 21 → quN (gGarble a s k) z Y = quN a z Y := fun z Y h1 h2 => by unfold quN; rw [r z h1 h2, r0 1 (by decide)]
    have gl : ∀ Y, lateN (gGarble a s k) Y = lateN a Y := fun Y => by unfold lateN; rw [r 8 (by decide) (by decide), r0 1 (by decide)]
    have g3 : phN 0 (gGarble a s k) = phN 0 a := by
      unfold phN laN lgN kF
      rw [gl, gq 10 1 (by decide) (by decide), gq 9 1 (by decide) (by decide), gq 10 0 (by decide) (by decide), r0 2 (by decide), r 3 (by decide) (by decide), r 20 (by decide) (by decide), r 4 (by decide) (by decide), r 11 (by decide) (by decide)]
    have x1 := VH_eq (fl := 0) (a := a) (b := gGarble a s k) (G := gG 1) (G' := gG 1) (r 4 (by decide) (by decide)) (r 11 (by decide) (by decide)) (by rw [r 5 (by decide) (by decide)]) (r0 22 (by decide)) (r 24 (by decide) (by decide)) (r 26 (by decide) (by decide)) (r 27 (by decide) (by decide)) (r 28 (by decide) (by decide)) (r 34 (by decide) (by decide))
    have x2 := VT_le (fl := 0) (a := a) (b := gGarble a s k) (G := gG 0) (G' := gG 0) (r 4 (by decide) (by decide)) (r 11 (by decide) (by decide)) (by rw [r 5 (by decide) (by decide)]) (by rw [gq 9 0 (by decide) (by decide)]; exact Nat.le_refl _) (by rw [gq 10 0 (by decide) (by decide)]; exact Nat.le_refl _) (by rw [gq 10 1 (by decide) (by decide)]; exact Nat.le_refl _) (by rw [gl]; exact Nat.le_refl _)
    rw [g2, g3] at x1
    rw [g2] at x2
    have y1 := g1 1 (by decide)
    have y0 := g1 0 (by decide)
    obtain ⟨f1, f2⟩ := VS_eq (fl := 0) (a := a) (b := gGarble a s k) (r 4 (by decide) (by decide)) (r 11 (by decide) (by decide))
    exact ⟨by omega, by omega, by rw [f1]; exact p3, by rw [f2]; exact p4⟩
