/-! What the work of a message wants, from what is kept. -/
theorem MI_O {K O E R : Nat} {a : AS} (h : MI K O E R a) : tn (a 0 22) = O ∧ tn (a 0 35) = E ∧ O ≤ 40 ∧ E ≤ 100 ∧ a 0 35 = nI E ∧ a 0 22 = nI O := by
  obtain ⟨y1, y2, y3, y4, y5⟩ := h.1
  exact ⟨by rw [y1, tnI (by omega)], by rw [y3, tnI (by omega)], y2, y4, y3, y1⟩
theorem MI_mm1 {K O E R : Nat} {a : AS} (h : MI K O E R a) : mm1 a O E := h.2.2.2.2.2.2.2.2.1
theorem MI_frO {K O E R : Nat} {a : AS} (h : MI K O E R a) : frO a := h.2.2.2.2.2.2.2.1
theorem sv_kd {a : AS} (hv : sv a) {s n : Nat} (hs : s < 2) (h1 : 1 ≤ n) (hn : n ≤ tn (a 4 s)) : ∃ kd : Nat, a 11 (8192 * s + n) = nI kd ∧ kd ≤ 8 ∧ kd ≠ 4 ∧ (s = 0 → kd ≤ 7) ∧ (s = 1 → kd ≤ 3 ∨ kd = 8) := by
  obtain ⟨-, -, -, -, -, -, -, -, -, v10, -⟩ := hv.2.2 s hs
  exact v10 n h1 hn
theorem MI_fOk {K O E R : Nat} {a : AS} (hv : sv a) (h : MI K O E R a) : fOk a := by
  obtain ⟨eO, eE, hO, hE, -⟩ := MI_O h
  intro s i hs hi h8 h14 f t hf ht h100
  obtain ⟨kd, k1, k2, k3, k4, k5⟩ := sv_kd hv hs (show 1 ≤ i + 1 by omega) (show i + 1 ≤ tn (a 4 s) by omega)
  have ek : kd = 8 := (nI_eq (by omega) (by omega)).mp (k1.symm.trans h8)
  rcases (show s = 0 ∨ s = 1 by omega) with rfl | rfl
  · have := k4 rfl; omega
  · rw [eE]
    exact (isF_K (MI_mm1 h) hE (show 1 ≤ i + 1 by omega) (by omega) ⟨h8, h14, hf, ht, h100⟩).1
theorem MI_frE {K O E R : Nat} {a : AS} (h : MI K O E R a) : frE a := fun e he h100 => by
  rw [(MI_O h).2.1] at he
  obtain ⟨w1, w2, w3, w4, w5, w6, w7⟩ := h.2.2.2.2.2.1 e he h100
  exact ⟨w4, w5, w6, w7⟩
theorem MI_vOk {K O E R : Nat} {a : AS} (h : MI K O E R a) : vOk a := by
  refine ⟨fun s n hs h1 hn k k1 k2 => (MI_mm1 h s n hs h1 hn).1 k k1 k2, fun e he => ?_⟩
  rcases Nat.lt_or_ge e E with c | c
  · obtain ⟨-, t1, t2, t3, -⟩ := h.2.2.2.2.1 e c
    exact ⟨t1, t2, t3⟩
  · obtain ⟨w1, w2, w3, -⟩ := h.2.2.2.2.2.1 e c he
    exact ⟨⟨0, by omega, w1⟩, ⟨0, by omega, w2⟩, ⟨0, by omega, w3⟩⟩
theorem lsum1 {a : AS} {O E o : Nat} (h : mb5 a O E) : ∀ G, G ≤ E → lsum a 1 o G = nI (hSm a o G)
  | 0, _ => rfl
  | G + 1, hG => by
    have ih := lsum1 (o := o) h G (by omega)
    obtain ⟨-, -, ⟨z, z1, z2⟩, -, t1, -⟩ := h G (by omega)
    have eh : hSm a o (G + 1) = hSm a o G + (if a 36 G = nI o ∧ a 43 (100 + G) = nI 0 then tn (a 39 G) else 0) := rfl
    by_cases c : a 36 G = nI o ∧ a 43 (100 + G) = nI 0
    · have hc : cntO a 1 o G := by
        unfold cntO
        rw [show 100 * 1 + G = 100 + G by omega]
        exact ⟨c.1, t1, c.2⟩
      rw [lsum_pos hc, ih, eh, if_pos c, z2, tnI (by omega), nI_add]
    · have hc : ¬ cntO a 1 o G := fun hh => by
        unfold cntO at hh
        rw [show 100 * 1 + G = 100 + G by omega] at hh
        exact c ⟨hh.1, hh.2.2⟩
      rw [lsum_neg hc, ih, eh, if_neg c]
      rfl
theorem MI_logOk {K O E R : Nat} {a : AS} (h : MI K O E R a) : logOk a := by
  obtain ⟨eO, eE, hO, hE, -⟩ := MI_O h
  intro s o hs ho
  rw [eO] at ho
  rw [eE]
  rcases (show s = 0 ∨ s = 1 by omega) with rfl | rfl
  · rw [show 40 * 0 + o = o by omega]
    exact h.2.2.1 o (by omega)
  · obtain ⟨z, d, u, z1, z2, z3, z4, z5, z6, z7⟩ := h.2.1 o (by omega)
    rw [lsum1 h.2.2.2.2.1 E (Nat.le_refl _), show 40 * 1 + o = 40 + o by omega, z4, z6]
theorem MI_ordIn {K O E R : Nat} {a : AS} {s : Nat} (hs : s < 2) (hv : sv a) (h : MI K O E R a) : ordIn a s := fun n h1 hn h5 => by
  obtain ⟨eO, -⟩ := MI_O h
  obtain ⟨kd, k1, k2, k3, k4, k5⟩ := sv_kd hv hs h1 hn
  have ek : kd = 5 := (nI_eq (by omega) (by omega)).mp (k1.symm.trans h5)
  rcases (show s = 0 ∨ s = 1 by omega) with rfl | rfl
  · obtain ⟨o, o1, o2⟩ := (MI_mm1 h 0 n hs h1 hn).2.2.1 rfl 5 (by omega) (by omega) h5
    exact ⟨o, o2, by omega⟩
  · have := k5 rfl; omega
theorem lft_nn {a : AS} {o E : Nat} (h : hbK a o E) : ¬ lft a (40 + o) < nI 0 := by
  obtain ⟨z, d, u, z1, z2, z3, z4, z5, z6, z7⟩ := h
  rw [lft_n z2 z3 z4 z5]
  exact fun hh => by have := (nI_ltI (by omega) (by omega)).mp hh; omega
theorem MI_R {K O E R : Nat} {a : AS} (h : MI K O E R a) : R ≤ K := by
  have := h.2.2.2.2.2.2.2.2.2.2.2
  unfold mm4 at this
  omega
theorem MI_woR {K O E R o : Nat} {a : AS} (hK : K ≤ 1000) (ho : o < O) (hrm : roomS a 1 2) (hv : sv a) (h : MI K O E R a) : ∃ d : Nat, woR a o d := by
  obtain ⟨eO, eE, hO, hE, e35, -⟩ := MI_O h
  obtain ⟨d, d1, d2⟩ := h.2.2.2.1.1 o ho
  have hR := MI_R h
  refine ⟨d, by omega, d1, d2, ⟨E, e35, hE⟩, MI_fOk hv h, MI_frE h, fun o' h1 h2 h3 => ?_, hrm, lft_nn (h.2.1 o (by omega))⟩
  obtain ⟨r, r1, r2⟩ := h.2.2.2.1.2 o' (by omega) h3
  rw [r2, h.1.2.2.2.2]
  exact (nI_ltI (by omega) (by omega)).mpr r1
theorem rpK_lrn {a : AS} {O E q : Nat} (eO : tn (a 0 22) = O) (eE : tn (a 0 35) = E) (h : rpK a O E q) : lrnOk a q := by
  obtain ⟨σ, o, w1, w2, w3, w4, w5, w6, w7⟩ := h
  refine ⟨σ, o, w1, w2, w3, by omega, fun c => ?_, fun c => ?_⟩
  · obtain ⟨f, t, x1, x2, x3, -⟩ := w5 c
    exact ⟨f, t, x1, x2, by omega⟩
  · rcases c with c | c
    · obtain ⟨e, x1, x2, -⟩ := w6 c
      exact ⟨e, x1, by omega⟩
    · obtain ⟨e, x1, x2⟩ := w7 c
      exact ⟨e, x1, by omega⟩
theorem rpK_rep {a : AS} {O E q : Nat} (hq : q < 16384) (hO : O ≤ 40) (hE : E ≤ 100) (h : rpK a O E q) : repOk a q := by
  obtain ⟨σ, o, w1, w2, w3, w4, w5, w6, w7⟩ := h
  refine ⟨hq, σ, o, w1, w2, w3, by omega, fun c => ?_, fun c => ?_⟩
  · obtain ⟨f, t, x1, x2, x3, -⟩ := w5 c
    exact ⟨f, t, x1, x2, by omega⟩
  · rcases c with c | c
    · obtain ⟨e, x1, x2, -⟩ := w6 c
      exact ⟨e, x1, by omega⟩
    · obtain ⟨e, x1, x2⟩ := w7 c
      exact ⟨e, x1, by omega⟩
/-- a message's work: on the class's side -/
theorem MI_tw {K O E R s n : Nat} {a : AS} (hK : K ≤ 1000) (hs : s < 2) (h1 : 1 ≤ n) (hn : n ≤ tn (a 4 (1 - s))) (hv : sv a) (hrm : ∀ s k, s < 2 → k ≤ 2 → roomS a s k) (h : MI K O E R a) : twOk a s (8192 * (1 - s) + n) := by
  obtain ⟨eO, eE, hO, hE, e35, -⟩ := MI_O h
  obtain ⟨kd, k1, k2, k3, k4, k5⟩ := sv_kd hv (show 1 - s < 2 by omega) h1 hn
  have hm := MI_mm1 h (1 - s) n (by omega) h1 hn
  refine ⟨kd, k1, k2, k3, fun _ => hrm s 1 hs (by omega), fun c => ?_, fun c => ?_⟩
  · subst c
    exact ⟨k5 rfl, fun c8 => rpK_lrn eO eE (hm.2.2.2 rfl (by rw [k1, c8]))⟩
  · subst c
    refine ⟨k4 rfl, fun c5 => ?_⟩
    obtain ⟨o, o1, o2⟩ := hm.2.2.1 rfl kd c5 (k4 rfl) k1
    obtain ⟨d, hd⟩ := MI_woR hK o1 (hrm 1 2 (by omega) (by omega)) hv h
    exact ⟨o, d, o2, hd⟩
/-- what it counts -/
theorem MI_wrk {K O E R s n : Nat} {a : AS} (hs : s < 2) (h1 : 1 ≤ n) (hn : n ≤ tn (a 4 (1 - s))) (hv : sv a) (h : MI K O E R a) : wrk a s n := by
  obtain ⟨eO, eE, hO, hE, e35, -⟩ := MI_O h
  obtain ⟨kd, k1, k2, k3, k4, k5⟩ := sv_kd hv (show 1 - s < 2 by omega) h1 hn
  have hm := MI_mm1 h (1 - s) n (by omega) h1 hn
  refine ⟨kd, k1, k2, fun c c8 => ?_, fun c c5 => ?_⟩
  · subst c
    obtain ⟨σ, o, w1, w2, w3, w4, -⟩ := hm.2.2.2 rfl (by rw [k1, c8])
    rw [w1, w3, tnI (by omega), tnI (by omega)]
    omega
  · subst c
    obtain ⟨o, o1, o2⟩ := hm.2.2.1 rfl kd c5 (k4 rfl) k1
    obtain ⟨d, d1, d2⟩ := h.2.2.2.1.1 o o1
    rw [o2, tnI (by omega)]
    exact ⟨by omega, d, d1, d2, fun _ => lft_nn (h.2.1 o (by omega))⟩
/-- a message's work: on the reference's side -/
theorem MI_tk {K O E R s n f : Nat} {a : AS} (hs : s < 2) (h1 : 1 ≤ n) (hn : n ≤ tn (a 4 (1 - s))) (hf : f ≤ 8191) (hv : sv a) (hrm : rm3 a) (h : MI K O E R a) : tkOk a s n f := by
  obtain ⟨eO, eE, hO, hE, e35, -⟩ := MI_O h
  obtain ⟨S, e4, hS⟩ := hrm s hs
  obtain ⟨S', e4', hS'⟩ := hrm (1 - s) (by omega)
  have hn' : n ≤ 3000 := by rw [e4', tnI (by omega)] at hn; omega
  obtain ⟨-, -, -, -, h19, ⟨c, h20, hc⟩, -⟩ := hv.2.2 (1 - s) (by omega)
  refine ⟨by omega, hf, ⟨S, c, ⟨e4, h19, h20⟩, by omega, by omega⟩, fun _ => ?_⟩
  obtain ⟨kd, k1, k2, k3, k4, k5⟩ := sv_kd hv (show 1 - s < 2 by omega) h1 hn
  have hm := MI_mm1 h (1 - s) n (by omega) h1 hn
  refine ⟨kd, k1, k2, fun c c8 => ?_, fun c => ?_⟩
  · subst c
    exact rpK_rep (by omega) hO hE (hm.2.2.2 rfl (by rw [k1, c8]))
  · subst c
    refine ⟨k4 rfl, fun c5 => ?_⟩
    obtain ⟨o, o1, o2⟩ := hm.2.2.1 rfl kd c5 (k4 rfl) k1
    obtain ⟨d, d1, d2⟩ := h.2.2.2.1.1 o o1
    exact ⟨o, d, E, o2, by omega, d1, d2, e35, hE⟩
