/-! The calls, in what is kept. -/
theorem rg_n {x : Int32} {lo hi : Nat} (hl : lo < 2 ^ 31) (hh : hi < 2 ^ 31) (h : ¬ (x < nI lo ∨ nI hi < x)) : ∃ v : Nat, v ≤ hi ∧ x = nI v := by
  have c0 : ¬ x < 0 := fun hx => h (Or.inl (by
    rw [Int32.lt_iff_toInt_lt] at hx ⊢
    have e0 : (0 : Int32).toInt = 0 := rfl
    have : ¬ (nI lo < 0) := nIb lo hl
    rw [Int32.lt_iff_toInt_lt] at this
    omega))
  obtain ⟨t, ht, rfl⟩ := nI_of c0
  exact ⟨t, Nat.le_of_not_lt (fun hc => h (Or.inr ((nI_ltI hh ht).mpr hc))), rfl⟩
theorem MI_00 {K O E R : Nat} {a : AS} {v : Int32} (h : MI K O E R a) : MI K O E R (up2 a 0 0 v) :=
  MI_line (fun k i hk => up2_n _ _ (by omega)) (fun i hi => up2_n _ _ (by omega)) (fun o' h1 h2 => ⟨up2_n _ _ (by omega), up2_n _ _ (by omega)⟩) (fun s hs => by rw [up2_n _ _ (by omega)]; exact Nat.le_refl _) h
theorem hSm_sub {a b : AS} {o e : Nat} (h36 : a 36 e = nI o) (h43 : a 43 (100 + e) = nI 0) (hb : b 43 (100 + e) ≠ nI 0) : ∀ E : Nat, e < E → (∀ x, x < E → x ≠ e → b 36 x = a 36 x ∧ b 39 x = a 39 x ∧ b 43 (100 + x) = a 43 (100 + x)) → hSm a o E = hSm b o E + tn (a 39 e)
  | 0, h, _ => by omega
  | E + 1, h, hx => by
    show hSm a o E + (if a 36 E = nI o ∧ a 43 (100 + E) = nI 0 then tn (a 39 E) else 0) = hSm b o E + (if b 36 E = nI o ∧ b 43 (100 + E) = nI 0 then tn (b 39 E) else 0) + tn (a 39 e)
    by_cases c : e = E
    · subst c
      rw [if_pos ⟨h36, h43⟩, if_neg (fun hh => hb hh.2), hSm_c e (fun x hx' => hx x (by omega) (by omega))]
      rfl
    · obtain ⟨w1, w2, w3⟩ := hx E (by omega) (fun h => c h.symm)
      rw [hSm_sub h36 h43 hb E (by omega) (fun x hx' hne => hx x (by omega) hne), w1, w2, w3]
      omega
theorem hSm_ne {a b : AS} {o e : Nat} (h36 : a 36 e ≠ nI o) (h36b : b 36 e = a 36 e) : ∀ E : Nat, (∀ x, x < E → x ≠ e → b 36 x = a 36 x ∧ b 39 x = a 39 x ∧ b 43 (100 + x) = a 43 (100 + x)) → hSm b o E = hSm a o E
  | 0, _ => rfl
  | E + 1, hx => by
    show hSm b o E + (if b 36 E = nI o ∧ b 43 (100 + E) = nI 0 then tn (b 39 E) else 0) = hSm a o E + (if a 36 E = nI o ∧ a 43 (100 + E) = nI 0 then tn (a 39 E) else 0)
    rw [hSm_ne h36 h36b E (fun x hx' hne => hx x (by omega) hne)]
    by_cases c : e = E
    · subst c
      rw [if_neg (fun hh => h36 (h36b.symm.trans hh.1)), if_neg (fun hh => h36 hh.1)]
    · obtain ⟨w1, w2, w3⟩ := hx E (by omega) (fun h => c h.symm)
      rw [w1, w2, w3]
theorem MI_bust {K O E R e S : Nat} {a : AS} (he : e < E) (h43 : a 43 (100 + e) = nI 0) (e4 : a 4 1 = nI S) (hS : S + 1 ≤ 8190) (hl : lgN a 0 ≤ 8190) (h : MI K O E R a) : MI K O E R (gBust a e) := by
  obtain ⟨g1, g2, g3, g4, g5, g6, g7, g8, g9, g10, g11, g12⟩ := id h
  obtain ⟨y1, y2, y3, y4, y5⟩ := id g1
  obtain ⟨⟨o, q1, q2, q3⟩, -, ⟨z0, z1, z2⟩, -, t1, t2, t3⟩ := g5 e he
  have eo : tn (a 36 e) = o := by rw [q2, tnI (by omega)]
  have h43e : a 43 e = nI 0 := Classical.byContradiction (fun c => t3 c h43)
  unfold gBust
  rw [eo]
  generalize hb : gBust0 a e o = b
  have F : ∀ k i : Nat, ¬ (k = 0 ∧ i = 0) → ¬ (k = 43 ∧ i = 100 + e) → ¬ (k = 27 ∧ i = 40 + o) → ¬ (k = 28 ∧ i = 40 + o) → b k i = a k i := fun k i w0 w1 w2 w3 => by
    rw [← hb]
    unfold gBust0
    rw [up2_n _ _ w3, up2_n _ _ w2, up2_n _ _ w1, up2_n _ _ w0]
  have n27 : b 27 (40 + o) = a 27 (40 + o) - a 39 e := by
    rw [← hb]
    unfold gBust0
    rw [up2_n _ _ (by omega), up2_s]
  have n28 : b 28 (40 + o) = a 28 (40 + o) + a 39 e := by
    rw [← hb]
    unfold gBust0
    rw [up2_s]
  have n43 : b 43 (100 + e) = nI 1 := by
    rw [← hb]
    unfold gBust0
    rw [up2_n _ _ (by omega), up2_n _ _ (by omega), up2_s]
  have n43' : b 43 (100 + e) ≠ nI 0 := by rw [n43]; decide
  have hx : ∀ x, x < E → x ≠ e → b 36 x = (up2 a 0 0 (nI 0)) 36 x ∧ b 39 x = (up2 a 0 0 (nI 0)) 39 x ∧ b 43 (100 + x) = (up2 a 0 0 (nI 0)) 43 (100 + x) := fun x _ hne => by
    rw [up2_n _ _ (by omega), up2_n _ _ (by omega), up2_n _ _ (by omega)]
    exact ⟨F _ _ (by omega) (by omega) (by omega) (by omega), F _ _ (by omega) (by omega) (by omega) (by omega), F _ _ (by omega) (by omega) (by omega) (by omega)⟩
  have hb1 : MI K O E R b := by
    refine MI_hd (a := up2 a 0 0 (nI 0)) q1 (fun k i w1 w2 => ?_) (by rw [up2_n _ _ (by omega)]; exact q3) (fun z d u w1 w2 w3 w4 w5 w6 => ?_) (fun o' ho' hne => ?_) (fun x hx' c => ?_) (fun x hx' => ?_) (MI_00 h)
    · by_cases c : k = 0 ∧ i = 0
      · obtain ⟨rfl, rfl⟩ := c
        rw [← hb]
        unfold gBust0
        rw [up2_n _ _ (by omega), up2_n _ _ (by omega), up2_n _ _ (by omega)]
      · rw [up2_n _ _ c]
        exact F k i c (by omega) (by omega) (by omega)
    · have hsub := hSm_sub (a := up2 a 0 0 (nI 0)) (b := b) (o := o) (e := e) (by rw [up2_n _ _ (by omega)]; exact q2) (by rw [up2_n _ _ (by omega)]; exact h43) n43' E he hx
      rw [up2_n _ _ (by omega)] at w4 w5 hsub
      rw [z2, tnI (by omega)] at hsub
      refine ⟨d - z0, u + z0, by omega, ?_, ?_, by omega⟩
      · rw [n27, w4, z2, pk_sub (by omega)]
      · rw [n28, w5, z2, nI_add]
    · exact hSm_ne (e := e) (by rw [up2_n _ _ (by omega), q2]; exact fun c => hne ((nI_eq (by omega) (by omega)).mp c).symm) (by rw [up2_n _ _ (by omega)]; exact F _ _ (by omega) (by omega) (by omega) (by omega)) E hx
    · rw [up2_n _ _ (by omega)] at c
      by_cases cx : x = e
      · subst cx; exact n43'
      · rw [F 43 _ (by omega) (by omega) (by omega) (by omega)]; exact c
    · rw [up2_n _ _ (by omega)]
      exact F _ _ (by omega) (by omega) (by omega) (by omega)
  refine MI_rep (S := S) ((F _ _ (by omega) (by omega) (by omega) (by omega)).trans e4) hS (by unfold lgN; rw [F _ _ (by omega) (by omega) (by omega) (by omega)]; exact hl) (by omega) q1 ⟨e, by omega, rfl⟩ ⟨0, by omega, rfl⟩ (fun c => by omega) (fun _ => ⟨e, rfl, he, (F _ _ (by omega) (by omega) (by omega) (by omega)).trans q2, n43', (F _ _ (by omega) (by omega) (by omega) (by omega)).trans h43e, fun n n1 n2 hB => ?_⟩) (fun c => by omega) hb1
  have hB' : isB a (8192 * 1 + n) e := isB_c (F _ _ (by omega) (by omega) (by omega) (by omega)) (F _ _ (by omega) (by omega) (by omega) (by omega)) (F _ _ (by omega) (by omega) (by omega) (by omega)) hB
  obtain ⟨v1, v2, v3, v4⟩ := hB'
  obtain ⟨σ, o2, r1, r2, r3, r4, r5, r6, r7⟩ := (g9 1 n (by decide) n1 (by rw [e4, tnI (by omega)]; exact n2)).2.2.2 rfl v1
  have eσ : σ = 5 := (nI_eq (by omega) (by omega)).mp (r1.symm.trans v2)
  obtain ⟨x, s1, s2, s3, s4⟩ := r6 eσ
  have ex : x = e := (nI_eq (by omega) (by omega)).mp (s1.symm.trans v3)
  subst ex
  exact s4 h43
theorem MI_corr {K O E R e S v : Nat} {a : AS} (he : e < E) (hv : v ≤ 10000) (e4 : a 4 1 = nI S) (hS : S + 1 ≤ 8190) (hl : lgN a 0 ≤ 8190) (h : MI K O E R a) : MI K O E R (gCorr a e (nI v)) := by
  obtain ⟨y1, y2, y3, y4, y5⟩ := id h.1
  obtain ⟨⟨o, q1, q2, q3⟩, -⟩ := h.2.2.2.2.1 e he
  have eo : tn (a 36 e) = o := by rw [q2, tnI (by omega)]
  unfold gCorr
  rw [eo]
  exact MI_rep (S := S) (by rw [up2_n _ _ (by omega), up2_n _ _ (by omega)]; exact e4) hS (by unfold lgN; rw [up2_n _ _ (by omega), up2_n _ _ (by omega)]; exact hl) (by omega) q1 ⟨e, by omega, rfl⟩ ⟨v, hv, rfl⟩ (fun c => by omega) (fun c => by omega) (fun _ => ⟨e, rfl, he⟩) (MI_41 (Or.inr (by omega)) (MI_00 h))
theorem exK_m {a : AS} {O O' e : Nat} (hO : O ≤ O') (h : exK a O e) : exK a O' e := by
  obtain ⟨⟨o, q1, q2⟩, t⟩ := h
  exact ⟨⟨o, by omega, q2⟩, t⟩
theorem MI_newO {K O E R d x y : Nat} {a : AS} (hO : O < 40) (hd : d < 2) (h : MI K O E R a) : MI K (O + 1) E R (gNewO a O (nI d) (nI x) (nI y)) := by
  obtain ⟨g1, g2, g3, g4, g5, g6, g7, g8, g9, g10, g11, g12⟩ := h
  obtain ⟨y1, y2, y3, y4, y5⟩ := id g1
  have eO : tn (a 0 22) = O := by rw [y1, tnI (by omega)]
  generalize hb : gNewO a O (nI d) (nI x) (nI y) = b
  have F : ∀ k i : Nat, ¬ (k = 0 ∧ i = 0) → ¬ ((k = 23 ∨ k = 25 ∨ k = 26) ∧ i = O) → ¬ (k = 0 ∧ i = 22) → b k i = a k i := fun k i w0 w1 w2 => by
    rw [← hb]
    unfold gNewO
    rw [up2_n _ _ w2, up2_n _ _ (by omega), up2_n _ _ (by omega), up2_n _ _ (by omega), up2_n _ _ w0]
  have n22 : b 0 22 = nI (O + 1) := by
    rw [← hb]
    unfold gNewO
    rw [up2_s]
  have n23 : b 23 O = nI d := by
    rw [← hb]
    unfold gNewO
    rw [up2_n _ _ (by omega), up2_n _ _ (by omega), up2_n _ _ (by omega), up2_s]
  have hm : mrow a b := ⟨fun s _ => F _ _ (by omega) (by omega) (by omega), fun k i hk => F _ _ (by omega) (by omega) (by omega)⟩
  refine ⟨⟨n22, by omega, (F _ _ (by omega) (by omega) (by omega)).trans y3, y4, (F _ _ (by omega) (by omega) (by omega)).trans y5⟩, mb2_c (fun o' _ => ⟨F _ _ (by omega) (by omega) (by omega), F _ _ (by omega) (by omega) (by omega), F _ _ (by omega) (by omega) (by omega), F _ _ (by omega) (by omega) (by omega)⟩) (fun e _ => ⟨F _ _ (by omega) (by omega) (by omega), F _ _ (by omega) (by omega) (by omega), F _ _ (by omega) (by omega) (by omega)⟩) g2, mb3_c (fun o' _ => F _ _ (by omega) (by omega) (by omega)) (fun e _ => ⟨F _ _ (by omega) (by omega) (by omega), F _ _ (by omega) (by omega) (by omega), F _ _ (by omega) (by omega) (by omega), F _ _ (by omega) (by omega) (by omega)⟩) g3, ⟨fun o' ho' => ?_, fun o' ho' c24 => ?_⟩, fun e he => exK_m (Nat.le_succ _) (exK_c ⟨F _ _ (by omega) (by omega) (by omega), F _ _ (by omega) (by omega) (by omega), F _ _ (by omega) (by omega) (by omega), F _ _ (by omega) (by omega) (by omega), F _ _ (by omega) (by omega) (by omega), F _ _ (by omega) (by omega) (by omega), F _ _ (by omega) (by omega) (by omega), F _ _ (by omega) (by omega) (by omega)⟩ (fun o' ho' c => by rw [F _ _ (by omega) (by omega) (by omega)]; exact c) (g5 e he)), mb6_c (fun e h1 h2 => ⟨F _ _ (by omega) (by omega) (by omega), F _ _ (by omega) (by omega) (by omega), F _ _ (by omega) (by omega) (by omega), F _ _ (by omega) (by omega) (by omega), F _ _ (by omega) (by omega) (by omega), F _ _ (by omega) (by omega) (by omega), F _ _ (by omega) (by omega) (by omega)⟩) g6, mb7_c (fun q _ => ⟨F _ _ (by omega) (by omega) (by omega), F _ _ (by omega) (by omega) (by omega)⟩) g7, fun o' h1 h2 => ?_, mm1_c (Nat.le_succ _) (Nat.le_refl _) hm (fun e _ => ⟨F _ _ (by omega) (by omega) (by omega), fun c => by rw [F _ _ (by omega) (by omega) (by omega)]; exact c⟩) g9, mm2_c hm (by rw [F 5 0 (by omega) (by omega) (by omega)]; exact Nat.le_refl _) (fun e _ => ⟨fun c => by rw [F _ _ (by omega) (by omega) (by omega)]; exact c, fun c => by rw [F _ _ (by omega) (by omega) (by omega)]; exact c⟩) g10, mm3_c hm g11, mm4_c hm (by rw [F 5 1 (by omega) (by omega) (by omega)]; exact Nat.le_refl _) g12⟩
  · by_cases c : o' = O
    · subst c
      exact ⟨d, hd, n23⟩
    · obtain ⟨d', q1, q2⟩ := g4.1 o' (by omega)
      exact ⟨d', q1, (F _ _ (by omega) (by omega) (by omega)).trans q2⟩
  · rw [F 24 _ (by omega) (by omega) (by omega)] at c24
    obtain ⟨r, q1, q2⟩ := g4.2 o' ho' c24
    exact ⟨r, q1, (F _ _ (by omega) (by omega) (by omega)).trans q2⟩
  · rw [n22, tnI (by omega)] at h1
    have hfr := g8 o' (by omega) h2
    rw [F 24 o' (by omega) (by omega) (by omega), F 24 (40 + o') (by omega) (by omega) (by omega), F 29 o' (by omega) (by omega) (by omega), F 30 o' (by omega) (by omega) (by omega), F 27 o' (by omega) (by omega) (by omega), F 28 o' (by omega) (by omega) (by omega), F 25 (40 + o') (by omega) (by omega) (by omega), F 26 (40 + o') (by omega) (by omega) (by omega), F 27 (40 + o') (by omega) (by omega) (by omega), F 28 (40 + o') (by omega) (by omega) (by omega)]
    exact hfr
theorem MI_order {K O E R d x y S : Nat} {a : AS} (hO : O < 40) (hd : d < 2) (hx : x ≤ 10000) (hy : y ≤ 10000) (e4 : a 4 0 = nI S) (hS : S + 1 ≤ 8190) (h : MI K O E R a) : MI (K + 1) (O + 1) E R (gOrder a O (nI d) (nI x) (nI y)) := by
  have hb := MI_newO (x := x) (y := y) hO hd h
  unfold gOrder
  refine MI_app (S := S) ?_ hS (by omega) (Nat.lt_succ_self O) ⟨d, by omega, rfl⟩ ⟨x, hx, rfl⟩ ⟨y, hy, rfl⟩ hb
  unfold gNewO
  rw [up2_n _ _ (by omega), up2_n _ _ (by omega), up2_n _ _ (by omega), up2_n _ _ (by omega), up2_n _ _ (by omega)]
  exact e4
theorem MI_req {K O E R o k x y S : Nat} {a : AS} (ho : o < O) (hk : k = 6 ∨ k = 7) (hx : x ≤ 10000) (hy : y ≤ 10000) (e4 : a 4 0 = nI S) (hS : S + 1 ≤ 8190) (h : MI K O E R a) : MI (K + 1) O E R (gReq a o (nI k) (nI x) (nI y)) := by
  unfold gReq
  refine MI_app (S := S) ?_ hS (by omega) ho ⟨x, hx, rfl⟩ ⟨y, hy, rfl⟩ ⟨0, by omega, rfl⟩ (MI_30 ho (MI_00 h))
  rw [up2_n _ _ (by omega), up2_n _ _ (by omega)]
  exact e4
theorem MI_quo0 {K O E R v d x y : Nat} {a : AS} (hx : x ≤ 10000) (hy : y ≤ 10000) (h : MI K O E R a) : MI K O E R (gQuo0 a v d (nI x) (nI y)) := by
  obtain ⟨g1, g2, g3, g4, g5, g6, g7, g8, g9, g10, g11, g12⟩ := MI_00 (v := nI 0) h
  refine ⟨g1, mb2_c (a := up2 a 0 0 (nI 0)) (fun o _ => ⟨rfl, rfl, rfl, rfl⟩) (fun e _ => ⟨rfl, rfl, rfl⟩) g2, mb3_c (a := up2 a 0 0 (nI 0)) (fun o _ => rfl) (fun e _ => ⟨rfl, rfl, rfl, rfl⟩) g3, g4, g5, g6, fun q hq => ?_, g8, mm1_c (a := up2 a 0 0 (nI 0)) (Nat.le_refl _) (Nat.le_refl _) ⟨fun s _ => rfl, fun k i hk => ?_⟩ (fun e _ => ⟨rfl, fun c => c⟩) g9, g10, g11, g12⟩
  rotate_left
  · unfold gQuo0
    rw [up2_n _ _ (by omega), up2_n _ _ (by omega)]
  obtain ⟨⟨p, p1, p2⟩, z, z1, z2⟩ := g7 q hq
  unfold gQuo0
  by_cases c : q = 2 * v + d
  · subst c
    exact ⟨⟨x, hx, by rw [up2_n _ _ (by omega), up2_s]⟩, y, hy, by rw [up2_s]⟩
  · exact ⟨⟨p, p1, by rw [up2_n _ _ (by omega), up2_n _ _ (by omega)]; exact p2⟩, z, z1, by rw [up2_n _ _ (by omega), up2_n _ _ (by omega)]; exact z2⟩
theorem routes_4 {a : AS} {o S : Nat} (e4 : a 4 1 = nI S) (hS : S < 2 ^ 30) : (∃ S' : Nat, S' ≤ S + 1 ∧ gRoutes a o 4 1 = nI S') ∧ lgN (gRoutes a o) 0 = lgN a 0 := by
  have F : ∀ i, gRouteL o 102 a 4 i = a 4 i := fun i => gRouteL_k o 102 a 4 i (by omega) (by omega) (by omega) (by omega)
  unfold gRoutes
  split
  · exact ⟨⟨S, by omega, (F 1).trans e4⟩, by unfold lgN; rw [F 0]⟩
  · obtain ⟨t1, t2⟩ := gRep_4 (σ := nI 1) (o := o) (x := nI (tn (a 0 35))) (y := nI (tn (gRouteL o 102 a 0 35) - tn (a 0 35))) ((F 1).trans e4) hS
    exact ⟨⟨S + 1, by omega, t1⟩, t2.trans (by unfold lgN; rw [F 0])⟩
theorem MI_quoL {K O R : Nat} {p : Nat → Nat} : ∀ (g i E S : Nat) (a : AS), (∀ j, i ≤ j → j < i + g → p j < O ∧ a 24 (40 + p j) ≠ nI 0) → a 4 1 = nI S → S + g ≤ 8190 → lgN a 0 ≤ 8190 → MI K O E R a → ∃ E' : Nat, MI K O E' R (gQL p g i a) := by
  intro g
  induction g with
  | zero => exact fun i E S a _ _ _ _ h => ⟨E, h⟩
  | succ g ih =>
    intro i E S a hp e4 hS hl h
    obtain ⟨p1, p2⟩ := hp i (Nat.le_refl _) (by omega)
    obtain ⟨E1, -, h1⟩ := MI_routes p1 p2 e4 (by omega) hl h
    obtain ⟨⟨S', s1, s2⟩, s3⟩ := routes_4 (o := p i) e4 (by omega)
    refine ih (i + 1) E1 S' (gRoutes a (p i)) (fun j h1 h2 => ?_) s2 (by omega) (by rw [s3]; exact hl) h1
    rw [gRoutes_q _ _ 24 _ (by omega)]
    exact hp j (by omega) (by omega)
theorem MI_con0 {K O E R : Nat} {a : AS} (z : Bool) (h : MI K O E R a) : MI K O E R (gCon0 a z) := by
  have F : ∀ k i : Nat, k ≠ 0 → k ≠ 4 → k ≠ 5 → k ≠ 9 → k ≠ 10 → gCon0 a z k i = a k i := fun k i w0 w4 w5 w9 w10 => by rw [gCon0_r a z k w0 w4 w5 w9 w10]
  have F0 : ∀ i, i = 22 ∨ i = 35 ∨ i = 32 → gCon0 a z 0 i = a 0 i := fun i hi => by rw [gCon0_0 a z i (by omega), if_neg (by omega)]
  cases z with
  | false =>
    have e4 : ∀ s, s < 2 → gCon0 a false 4 s = a 4 s := fun s hs => (gCon0_v a false s hs).1
    obtain ⟨g1, g2, g3, g4, g5, g6, g7, g8, g9, g10, g11, g12⟩ := h
    have hm : mrow a (gCon0 a false) := ⟨e4, fun k i hk => F _ _ (by omega) (by omega) (by omega) (by omega) (by omega)⟩
    have e5 : ∀ s, s < 2 → gCon0 a false 5 s = a 5 s := fun s hs => (gCon0_v a false s hs).2.1
    obtain ⟨y1, y2, y3, y4, y5⟩ := id g1
    exact ⟨⟨(F0 22 (by omega)).trans y1, y2, (F0 35 (by omega)).trans y3, y4, (F0 32 (by omega)).trans y5⟩, mb2_c (fun o' _ => ⟨F _ _ (by omega) (by omega) (by omega) (by omega) (by omega), F _ _ (by omega) (by omega) (by omega) (by omega) (by omega), F _ _ (by omega) (by omega) (by omega) (by omega) (by omega), F _ _ (by omega) (by omega) (by omega) (by omega) (by omega)⟩) (fun e _ => ⟨F _ _ (by omega) (by omega) (by omega) (by omega) (by omega), F _ _ (by omega) (by omega) (by omega) (by omega) (by omega), F _ _ (by omega) (by omega) (by omega) (by omega) (by omega)⟩) g2, mb3_c (fun o' _ => F _ _ (by omega) (by omega) (by omega) (by omega) (by omega)) (fun e _ => ⟨F _ _ (by omega) (by omega) (by omega) (by omega) (by omega), F _ _ (by omega) (by omega) (by omega) (by omega) (by omega), F _ _ (by omega) (by omega) (by omega) (by omega) (by omega), F _ _ (by omega) (by omega) (by omega) (by omega) (by omega)⟩) g3, mb4_c (fun o' _ => ⟨F _ _ (by omega) (by omega) (by omega) (by omega) (by omega), F _ _ (by omega) (by omega) (by omega) (by omega) (by omega), F _ _ (by omega) (by omega) (by omega) (by omega) (by omega)⟩) y2 g4, fun e he => exK_c ⟨F _ _ (by omega) (by omega) (by omega) (by omega) (by omega), F _ _ (by omega) (by omega) (by omega) (by omega) (by omega), F _ _ (by omega) (by omega) (by omega) (by omega) (by omega), F _ _ (by omega) (by omega) (by omega) (by omega) (by omega), F _ _ (by omega) (by omega) (by omega) (by omega) (by omega), F _ _ (by omega) (by omega) (by omega) (by omega) (by omega), F _ _ (by omega) (by omega) (by omega) (by omega) (by omega), F _ _ (by omega) (by omega) (by omega) (by omega) (by omega)⟩ (fun o' _ c => by rw [F _ _ (by omega) (by omega) (by omega) (by omega) (by omega)]; exact c) (g5 e he), mb6_c (fun e h1 h2 => ⟨F _ _ (by omega) (by omega) (by omega) (by omega) (by omega), F _ _ (by omega) (by omega) (by omega) (by omega) (by omega), F _ _ (by omega) (by omega) (by omega) (by omega) (by omega), F _ _ (by omega) (by omega) (by omega) (by omega) (by omega), F _ _ (by omega) (by omega) (by omega) (by omega) (by omega), F _ _ (by omega) (by omega) (by omega) (by omega) (by omega), F _ _ (by omega) (by omega) (by omega) (by omega) (by omega)⟩) g6, mb7_c (fun q _ => ⟨F _ _ (by omega) (by omega) (by omega) (by omega) (by omega), F _ _ (by omega) (by omega) (by omega) (by omega) (by omega)⟩) g7, frO_c (F0 22 (by omega)) (fun o' h1 h2 => ⟨F _ _ (by omega) (by omega) (by omega) (by omega) (by omega), F _ _ (by omega) (by omega) (by omega) (by omega) (by omega), F _ _ (by omega) (by omega) (by omega) (by omega) (by omega), F _ _ (by omega) (by omega) (by omega) (by omega) (by omega), F _ _ (by omega) (by omega) (by omega) (by omega) (by omega), F _ _ (by omega) (by omega) (by omega) (by omega) (by omega), F _ _ (by omega) (by omega) (by omega) (by omega) (by omega), F _ _ (by omega) (by omega) (by omega) (by omega) (by omega), F _ _ (by omega) (by omega) (by omega) (by omega) (by omega), F _ _ (by omega) (by omega) (by omega) (by omega) (by omega)⟩) g8, mm1_c (Nat.le_refl _) (Nat.le_refl _) hm (fun e _ => ⟨F _ _ (by omega) (by omega) (by omega) (by omega) (by omega), fun c => by rw [F _ _ (by omega) (by omega) (by omega) (by omega) (by omega)]; exact c⟩) g9, mm2_c hm (by rw [e5 0 (by decide)]; exact Nat.le_refl _) (fun e _ => ⟨fun c => by rw [F _ _ (by omega) (by omega) (by omega) (by omega) (by omega)]; exact c, fun c => by rw [F _ _ (by omega) (by omega) (by omega) (by omega) (by omega)]; exact c⟩) g10, mm3_c hm g11, mm4_c hm (by rw [e5 1 (by decide)]; exact Nat.le_refl _) g12⟩
  | true =>
    have e4 : ∀ s, s < 2 → tn (gCon0 a true 4 s) = 0 := fun s hs => by rw [(gCon0_v a true s hs).1]; rfl
    obtain ⟨g1, g2, g3, g4, g5, g6, g7, g8, g9, g10, g11, g12⟩ := h
    obtain ⟨y1, y2, y3, y4, y5⟩ := id g1
    refine ⟨⟨(F0 22 (by omega)).trans y1, y2, (F0 35 (by omega)).trans y3, y4, (F0 32 (by omega)).trans y5⟩, mb2_c (fun o' _ => ⟨F _ _ (by omega) (by omega) (by omega) (by omega) (by omega), F _ _ (by omega) (by omega) (by omega) (by omega) (by omega), F _ _ (by omega) (by omega) (by omega) (by omega) (by omega), F _ _ (by omega) (by omega) (by omega) (by omega) (by omega)⟩) (fun e _ => ⟨F _ _ (by omega) (by omega) (by omega) (by omega) (by omega), F _ _ (by omega) (by omega) (by omega) (by omega) (by omega), F _ _ (by omega) (by omega) (by omega) (by omega) (by omega)⟩) g2, mb3_c (fun o' _ => F _ _ (by omega) (by omega) (by omega) (by omega) (by omega)) (fun e _ => ⟨F _ _ (by omega) (by omega) (by omega) (by omega) (by omega), F _ _ (by omega) (by omega) (by omega) (by omega) (by omega), F _ _ (by omega) (by omega) (by omega) (by omega) (by omega), F _ _ (by omega) (by omega) (by omega) (by omega) (by omega)⟩) g3, mb4_c (fun o' _ => ⟨F _ _ (by omega) (by omega) (by omega) (by omega) (by omega), F _ _ (by omega) (by omega) (by omega) (by omega) (by omega), F _ _ (by omega) (by omega) (by omega) (by omega) (by omega)⟩) y2 g4, fun e he => exK_c ⟨F _ _ (by omega) (by omega) (by omega) (by omega) (by omega), F _ _ (by omega) (by omega) (by omega) (by omega) (by omega), F _ _ (by omega) (by omega) (by omega) (by omega) (by omega), F _ _ (by omega) (by omega) (by omega) (by omega) (by omega), F _ _ (by omega) (by omega) (by omega) (by omega) (by omega), F _ _ (by omega) (by omega) (by omega) (by omega) (by omega), F _ _ (by omega) (by omega) (by omega) (by omega) (by omega), F _ _ (by omega) (by omega) (by omega) (by omega) (by omega)⟩ (fun o' _ c => by rw [F _ _ (by omega) (by omega) (by omega) (by omega) (by omega)]; exact c) (g5 e he), mb6_c (fun e h1 h2 => ⟨F _ _ (by omega) (by omega) (by omega) (by omega) (by omega), F _ _ (by omega) (by omega) (by omega) (by omega) (by omega), F _ _ (by omega) (by omega) (by omega) (by omega) (by omega), F _ _ (by omega) (by omega) (by omega) (by omega) (by omega), F _ _ (by omega) (by omega) (by omega) (by omega) (by omega), F _ _ (by omega) (by omega) (by omega) (by omega) (by omega), F _ _ (by omega) (by omega) (by omega) (by omega) (by omega)⟩) g6, mb7_c (fun q _ => ⟨F _ _ (by omega) (by omega) (by omega) (by omega) (by omega), F _ _ (by omega) (by omega) (by omega) (by omega) (by omega)⟩) g7, frO_c (F0 22 (by omega)) (fun o' h1 h2 => ⟨F _ _ (by omega) (by omega) (by omega) (by omega) (by omega), F _ _ (by omega) (by omega) (by omega) (by omega) (by omega), F _ _ (by omega) (by omega) (by omega) (by omega) (by omega), F _ _ (by omega) (by omega) (by omega) (by omega) (by omega), F _ _ (by omega) (by omega) (by omega) (by omega) (by omega), F _ _ (by omega) (by omega) (by omega) (by omega) (by omega), F _ _ (by omega) (by omega) (by omega) (by omega) (by omega), F _ _ (by omega) (by omega) (by omega) (by omega) (by omega), F _ _ (by omega) (by omega) (by omega) (by omega) (by omega), F _ _ (by omega) (by omega) (by omega) (by omega) (by omega)⟩) g8, fun s n hs h1 hn => ?_, ⟨fun n f t e h1 hn hF w1 w2 => ?_, fun n e h1 hn hB => ?_⟩, ⟨fun n n' f t f' t' h1 hn hn' hF hF' => ?_, fun n n' e h1 hn hn' hB hB' => ?_⟩, ?_⟩
    · rw [e4 s hs] at hn; omega
    · rw [e4 1 (by decide)] at hn
      rw [(gCon0_v a true 0 (by decide)).2.1, if_pos rfl, tnI (by omega)] at h1
      omega
    · rw [e4 1 (by decide)] at hn
      rw [(gCon0_v a true 0 (by decide)).2.1, if_pos rfl, tnI (by omega)] at h1
      omega
    · rw [e4 1 (by decide)] at hn'; omega
    · rw [e4 1 (by decide)] at hn'; omega
    · unfold mm4 at g12 ⊢
      rw [show lgN (gCon0 a true) 0 = 0 from e4 0 (by decide)]
      show R + 0 ≤ K
      omega
theorem MI_connect {K O E R S0 S1 : Nat} {a : AS} (z : Bool) (e0 : gCon0 a z 4 0 = nI S0) (h0 : S0 + 1 ≤ 8190) (e1 : gCon0 a z 4 1 = nI S1) (h1 : S1 + 1 ≤ 8190) (h : MI K O E R a) : MI K O E R (gConnect a z) := by
  unfold gConnect
  have t := MI_ses (k := 0) (g := 0) (s := 0) (by decide) e0 h0 (by unfold lgN; rw [e0, tnI (by omega)]; omega) (by omega) (by omega) (MI_con0 z h)
  exact MI_ses (k := 0) (g := 0) (s := 1) (S := S1) (by decide) ((gSends_4o _ _ _ _ _ _ (by decide)).trans e1) h1 (by
    have := (snd_lg (kd := nI 0) (o1 := nI 0) (o2 := nI 0) (o3 := nI 0) (o4 := nI 0) e0 (by omega)).1
    rw [this]; omega) (by omega) (by omega) t
