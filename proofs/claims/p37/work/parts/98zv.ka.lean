/-! Between calls: what holds of the reference; each call keeps it. -/
def KA (n : Nat → Nat) (l0 l1 : Nat) (a : AS) : Prop := SI n 0 0 l0 l1 a ∧ qt a ∧ rst a ∧ (∃ E R : Nat, MI (n 4 + n 5) (n 4) E R a) ∧ tn (a 0 1) ≤ 50 * n 0
theorem sm8_nb {n : Nat → Nat} {i : Nat} (hi : i ≤ 7) : sm8 (nb n i) = sm8 n + 1 := by
  unfold sm8 nb
  rcases (show i = 0 ∨ i = 1 ∨ i = 2 ∨ i = 3 ∨ i = 4 ∨ i = 5 ∨ i = 6 ∨ i = 7 by omega) with rfl | rfl | rfl | rfl | rfl | rfl | rfl | rfl <;> simp <;> omega
theorem nb_o {n : Nat → Nat} {i j : Nat} (h : j ≠ i) : nb n i j = n j := if_neg h
theorem nb_s {n : Nat → Nat} {i : Nat} : nb n i i = n i + 1 := if_pos rfl
theorem KA_O {n : Nat → Nat} {l0 l1 : Nat} {a : AS} (h : KA n l0 l1 a) : n 4 ≤ 40 ∧ tn (a 0 22) = n 4 ∧ a 0 22 = nI (n 4) := by
  obtain ⟨-, -, -, ⟨E, R, m⟩, -⟩ := h
  obtain ⟨h1, h2, h3, h4, h5, h6⟩ := MI_O m
  exact ⟨h3, h1, h6⟩
theorem qt_c {a b : AS} (h3 : b 3 = a 3) (h10 : b 10 = a 10) (h01 : b 0 1 = a 0 1) (h9 : ∀ s, s < 2 → b 9 s = a 9 s ∨ b 9 s = a 0 1) (hq : qt a) : qt b := fun s hs => by
  intro hon
  rw [h3] at hon
  obtain ⟨q1, q2⟩ := hq s hs hon
  rw [h01, h10]
  refine ⟨q1, fun h => ?_⟩
  rcases h9 s hs with e | e
  · rw [e]; exact q2 h
  · rw [e]; exact h
theorem qt_snd {a : AS} {s : Nat} {kd o1 o2 o3 o4 : Int32} (hq : qt a) : qt (gSends a s kd o1 o2 o3 o4) := by
  refine qt_c (gSends_r _ _ _ _ _ _ _ 3 (by omega) (by omega) (by omega) (by omega) (by omega)) (gSends_r _ _ _ _ _ _ _ 10 (by omega) (by omega) (by omega) (by omega) (by omega)) (gSends_k _ _ _ _ _ _ _ 0 1 (by omega) (by omega) (by omega) (by omega) (by omega)) (fun t _ => ?_) hq
  rw [snd_9]
  split
  · exact Or.inr rfl
  · exact Or.inl rfl
theorem qt_r {a b : AS} (h : ∀ k, k = 3 ∨ k = 9 ∨ k = 10 → b k = a k) (h01 : b 0 1 = a 0 1) (hq : qt a) : qt b :=
  qt_c (h 3 (by omega)) (h 10 (by omega)) h01 (fun s _ => Or.inl (by rw [h 9 (by omega)])) hq
theorem rst_r {a b : AS} (h : ∀ k, k = 5 ∨ k = 18 → b k = a k) (hr : rst a) : rst b := rst_c (h 18 (by omega)) (h 5 (by omega)) hr
/-- a step on the books alone -/
def bk (a b : AS) : Prop := (∀ k, k ≠ 0 → k < 22 → b k = a k) ∧ b 0 1 = a 0 1
theorem bk_up {a b : AS} {k i : Nat} {v : Int32} (hk : 22 ≤ k ∨ (k = 0 ∧ i ≠ 1)) (h : bk a b) : bk a (up2 b k i v) :=
  ⟨fun k' h1 h2 => by rw [up2_k _ _ (by omega)]; exact h.1 k' h1 h2, by rw [up2_n _ _ (by omega)]; exact h.2⟩
theorem bk_refl (a : AS) : bk a a := ⟨fun _ _ _ => rfl, rfl⟩
theorem bk_qt {a b : AS} (h : bk a b) (hq : qt a) : qt b := qt_r (fun k hk => h.1 k (by omega) (by omega)) h.2 hq
theorem bk_rst {a b : AS} (h : bk a b) (hr : rst a) : rst b := rst_r (fun k hk => h.1 k (by omega) (by omega)) hr
/-- a call begins: the thing it tells -/
theorem KA_00 {n : Nat → Nat} {l0 l1 : Nat} {a : AS} {v : Int32} (h : KA n l0 l1 a) : KA n l0 l1 (up2 a 0 0 v) := by
  obtain ⟨h1, h2, h3, ⟨E, R, m⟩, h5⟩ := h
  have hb : bk a (up2 a 0 0 v) := bk_up (Or.inr ⟨rfl, by omega⟩) (bk_refl a)
  exact ⟨SI_stop h1, bk_qt hb h2, bk_rst hb h3, ⟨E, R, MI_00 m⟩, by rw [hb.2]; exact h5⟩
theorem KA_day {n : Nat → Nat} {l0 l1 : Nat} {a : AS} {v : Int32} (h : KA n l0 l1 a) : KA n l0 l1 (up2 (up2 a 0 0 (nI 0)) 0 44 v) := by
  obtain ⟨h1, h2, h3, ⟨E, R, m⟩, h5⟩ := KA_00 (v := nI 0) h
  generalize up2 a 0 0 (nI 0) = b at h1 h2 h3 m h5 ⊢
  have hb : bk b (up2 b 0 44 v) := bk_up (Or.inr ⟨rfl, by omega⟩) (bk_refl b)
  refine ⟨SI_mk (fun k hk => up2_k _ _ (by omega)) (up2_n _ _ (by omega)) (up2_n _ _ (by omega)) ?_ h1, bk_qt hb h2, bk_rst hb h3, ⟨E, R, MI_line (fun k i hk => up2_n _ _ (by omega)) (fun i hi => up2_n _ _ (by omega)) (fun o' h1 h2 => ⟨up2_n _ _ (by omega), up2_n _ _ (by omega)⟩) (fun s hs => by rw [up2_n _ _ (by omega)]; exact Nat.le_refl _) m⟩, by rw [hb.2]; exact h5⟩
  have e1 : unfN (up2 b 0 44 v) = unfN b := by
    unfold unfN
    rw [up2_n _ _ (by omega)]
    rfl
  have e2 : posN (up2 b 0 44 v) = posN b := rfl
  rw [e1, e2]
  exact Nat.le_refl _
theorem off_3 {a : AS} (hv : sv a) (hd : a 0 2 = nI 0) {s : Nat} (hs : s < 2) : a 3 s = nI 0 := by
  obtain ⟨-, -, -, -, -, -, -, v8, -⟩ := hv.2.2 s hs
  exact (v8 hd).1
theorem KA_con {n : Nat → Nat} {l0 l1 : Nat} {a : AS} (z : Bool) (hn : sm8 (nb n 7) ≤ 512) (hd : a 0 2 = nI 0) (h : KA n l0 l1 a) : KA (nb n 7) (l0 + if z then lgN a 0 else 0) (l1 + if z then lgN a 1 else 0) (gConnect a z) ∧ roomS (gCon0 a z) 0 1 ∧ roomS (gCon0 a z) 1 1 := by
  obtain ⟨hO, -⟩ := KA_O h
  obtain ⟨h1, h2, h3, ⟨E, R, m⟩, h5⟩ := h
  have hO' : nb n 7 4 ≤ 40 := by rw [nb_o (by omega)]; exact hO
  have h7 : 1 ≤ nb n 7 7 := by rw [nb_s]; omega
  have hb := SI_bCon h1
  have hc0 := SI_con0 z h7 hd hb
  have hrm := SI_rm hn hO' hc0
  have r : ∀ k, k = 3 ∨ k = 18 → gConnect a z k = a k := fun k hk => by
    unfold gConnect
    rw [gSends_r _ _ _ _ _ _ _ k (by omega) (by omega) (by omega) (by omega) (by omega), gSends_r _ _ _ _ _ _ _ k (by omega) (by omega) (by omega) (by omega) (by omega), gCon0_r a z k (by omega) (by omega) (by omega) (by omega) (by omega)]
  refine ⟨⟨SI_end (SI_con z hn hO' h7 hd hb), fun s hs hon => ?_, fun s hs i _ => ?_, ?_, ?_⟩, SI_roomS hc0 hn hO' (by decide) (by decide), SI_roomS hc0 hn hO' (by decide) (by decide)⟩
  · rw [r 3 (by omega)] at hon
    exact absurd (off_3 h1.1 hd hs) hon
  · have hh : hN (gConnect a z) s i = hN a s i := by unfold hN; rw [r 18 (by omega)]
    rw [hh]
    obtain ⟨hv, gL, gb, gt, gG, gz, hD, -⟩ := h1
    exact ((hD s hs).2.2 (off_3 hv hd hs)).1 i
  · obtain ⟨S0, e0, s0⟩ := hrm 0 (by decide)
    obtain ⟨S1, e1, s1⟩ := hrm 1 (by decide)
    rw [nb_o (show 4 ≠ 7 by omega), nb_o (show 5 ≠ 7 by omega)]
    exact ⟨E, R, MI_connect z e0 (by omega) e1 (by omega) m⟩
  · have e : gConnect a z 0 1 = a 0 1 := by
      unfold gConnect
      rw [gSends_k _ _ _ _ _ _ _ _ _ (by omega) (by omega) (by omega) (by omega) (by omega), gSends_k _ _ _ _ _ _ _ _ _ (by omega) (by omega) (by omega) (by omega) (by omega), gCon0_0 a z 1 (by omega), if_neg (by omega)]
    rw [e, nb_o (show 0 ≠ 7 by omega)]
    exact h5
theorem KA_cut {n : Nat → Nat} {l0 l1 : Nat} {a : AS} (h : KA n l0 l1 a) : KA n l0 l1 (gDown (up2 a 0 0 (nI 0))) := by
  obtain ⟨h1, h2, h3, ⟨E, R, m⟩, h5⟩ := KA_00 (v := nI 0) h
  exact ⟨SI_cut (by decide) h1, qt_off, rst_down _, ⟨E, R, MI_down m⟩, by rw [gDown_00, if_neg (by omega)]; exact h5⟩
theorem KA_pass {n : Nat → Nat} {l0 l1 t : Nat} {a : AS} (hn : sm8 (nb n 0) ≤ 512) (ht : t ≤ 50) (h : KA n l0 l1 a) : KA (nb n 0) l0 l1 (gPass a t).1 ∧ ∀ i, i < t → ∀ c, tickR (gTkL i (up2 a 0 0 (nI 0)) c).1 ∧ tickOk (gTkL i (up2 a 0 0 (nI 0)) c).1 := by
  obtain ⟨hO, -⟩ := KA_O h
  obtain ⟨h1, h2, h3, ⟨E, R, m⟩, h5⟩ := KA_00 (v := nI 0) h
  have hO' : nb n 0 4 ≤ 40 := by rw [nb_o (by omega)]; exact hO
  have hb := SI_bPass ht h1
  have h00 : up2 a 0 0 (nI 0) 0 0 = nI 0 := up2_s _ _ _ _
  have hn0 : n 0 ≤ 511 := by
    rw [sm8_nb (by omega)] at hn
    unfold sm8 at hn
    omega
  have hT : tn (up2 a 0 0 (nI 0) 0 1) + t ≤ 30000 := by omega
  obtain ⟨p1, p2, p3, p4⟩ := SI_pass (l0 := l0) (l1 := l1) hn hO' t 0 (up2 a 0 0 (nI 0)) 0 (by rw [Nat.zero_add]; exact hb) h2 hT h00
  obtain ⟨m1, m2⟩ := MI_tkL (l0 := l0) (l1 := l1) hn hO' t 0 (up2 a 0 0 (nI 0)) 0 (by rw [Nat.zero_add]; exact hb) h2 hT h3 m
  refine ⟨⟨SI_end p1, p2, m2, ?_, ?_⟩, SI_passOk hn hO' hb h2 hT h00⟩
  · rw [nb_o (show 4 ≠ 0 by omega), nb_o (show 5 ≠ 0 by omega)]
    exact ⟨E, R, m1⟩
  · show tn ((gTkL t (up2 a 0 0 (nI 0)) 0).1 0 1) ≤ _
    rw [p3, nb_s]
    omega
theorem KA_garble {n : Nat → Nat} {l0 l1 s k : Nat} {a : AS} (hn : sm8 (nb n 3) ≤ 512) (hs : s < 2) (hk : k < tn (a 20 s)) (h : KA n l0 l1 a) : KA (nb n 3) l0 l1 (gGarble a s k) := by
  obtain ⟨hO, -⟩ := KA_O h
  obtain ⟨h1, h2, h3, ⟨E, R, m⟩, h5⟩ := h
  have hO' : nb n 3 4 ≤ 40 := by rw [nb_o (by omega)]; exact hO
  have hb := (SI_bN (i := 3) (by omega) (by omega) h1).1
  rw [if_neg (by omega), if_neg (by omega)] at hb
  refine ⟨SI_garble hn hO' hs hk (SI_less (by omega) (by omega) hb), qt_r (fun q hq => gGarble_r a s k q (by omega) (by omega)) (gGarble_0 a s k 1 (by omega)) h2, rst_r (fun q hq => gGarble_r a s k q (by omega) (by omega)) h3, ?_, ?_⟩
  · rw [nb_o (show 4 ≠ 3 by omega), nb_o (show 5 ≠ 3 by omega)]
    exact ⟨E, R, MI_line (fun q i hq => by rw [gGarble_r a s k q (by omega) (by omega)]) (fun i hi => gGarble_0 a s k i (by omega)) (fun o _ _ => by rw [gGarble_r a s k 29 (by omega) (by omega), gGarble_r a s k 30 (by omega) (by omega)]; exact ⟨rfl, rfl⟩) (fun t _ => by rw [gGarble_r a s k 5 (by omega) (by omega)]; exact Nat.le_refl _) m⟩
  · rw [gGarble_0 a s k 1 (by omega), nb_o (show 0 ≠ 3 by omega)]
    exact h5
theorem snd_T {a : AS} {s : Nat} {kd o1 o2 o3 o4 : Int32} : gSends a s kd o1 o2 o3 o4 0 1 = a 0 1 := gSends_k _ _ _ _ _ _ _ 0 1 (by omega) (by omega) (by omega) (by omega) (by omega)
theorem KA_order {n : Nat → Nat} {l0 l1 d x y : Nat} {a : AS} (hn : sm8 (nb n 4) ≤ 512) (h40 : n 4 < 40) (hd : d < 2) (hx : x ≤ 10000) (hy : y ≤ 10000) (h : KA n l0 l1 a) : KA (nb n 4) l0 l1 (gOrder a (n 4) (nI d) (nI x) (nI y)) := by
  obtain ⟨hO, e22, e22'⟩ := KA_O h
  obtain ⟨h1, h2, h3, ⟨E, R, m⟩, h5⟩ := h
  have hO' : nb n 4 4 ≤ 40 := by rw [nb_s]; omega
  obtain ⟨hb, hA⟩ := SI_bN (i := 4) (by omega) (by omega) h1
  rw [if_neg (by omega), if_pos rfl] at hb
  have hk : bk a (gNewO a (n 4) (nI d) (nI x) (nI y)) := bk_up (Or.inr ⟨rfl, by omega⟩) (bk_up (Or.inl (by omega)) (bk_up (Or.inl (by omega)) (bk_up (Or.inl (by omega)) (bk_up (Or.inr ⟨rfl, by omega⟩) (bk_refl a)))))
  have hrm := SI_rm hn hO' hb
  obtain ⟨S, e4, hS⟩ := hrm 0 (by decide)
  refine ⟨SI_order hn hO' e22' h40 (hA (Or.inl rfl)) (SI_less (by omega) (by omega) hb), qt_snd (bk_qt hk h2), rst_snd (bk_rst hk h3), ?_, ?_⟩
  · rw [nb_s, nb_o (show 5 ≠ 4 by omega), show n 4 + 1 + n 5 = n 4 + n 5 + 1 by omega]
    exact ⟨E, R, MI_order h40 hd hx hy e4 (by omega) m⟩
  · unfold gOrder
    rw [snd_T, hk.2, nb_o (show 0 ≠ 4 by omega)]
    exact h5
theorem KA_req {n : Nat → Nat} {l0 l1 o k x y : Nat} {a : AS} (hn : sm8 (nb n 5) ≤ 512) (ho : o < n 4) (hk : k = 6 ∨ k = 7) (hx : x ≤ 10000) (hy : y ≤ 10000) (h : KA n l0 l1 a) : KA (nb n 5) l0 l1 (gReq a o (nI k) (nI x) (nI y)) := by
  obtain ⟨hO, e22, e22'⟩ := KA_O h
  obtain ⟨h1, h2, h3, ⟨E, R, m⟩, h5⟩ := h
  have hO' : nb n 5 4 ≤ 40 := by rw [nb_o (by omega)]; omega
  obtain ⟨hb, hA⟩ := SI_bN (i := 5) (by omega) (by omega) h1
  rw [if_neg (by omega), if_neg (by omega)] at hb
  have hbk : bk a (up2 (up2 a 0 0 (nI 0)) 30 o (a 30 o + nI 1)) := bk_up (Or.inl (by omega)) (bk_up (Or.inr ⟨rfl, by omega⟩) (bk_refl a))
  have hrm := SI_rm hn hO' hb
  obtain ⟨S, e4, hS⟩ := hrm 0 (by decide)
  refine ⟨SI_req hn hO' (by omega) (hA (Or.inr rfl)) (SI_less (by omega) (by omega) hb), qt_snd (bk_qt hbk h2), rst_snd (bk_rst hbk h3), ?_, ?_⟩
  · rw [nb_s, nb_o (show 4 ≠ 5 by omega), show n 4 + (n 5 + 1) = n 4 + n 5 + 1 by omega]
    exact ⟨E, R, MI_req ho hk hx hy e4 (by omega) m⟩
  · unfold gReq
    rw [snd_T, hbk.2, nb_o (show 0 ≠ 5 by omega)]
    exact h5
theorem KA_bust {n : Nat → Nat} {l0 l1 e : Nat} {a : AS} (hn : sm8 (nb n 6) ≤ 512) (he : e < tn (a 0 35)) (h43 : a 43 (100 + e) = nI 0) (h : KA n l0 l1 a) : KA (nb n 6) l0 l1 (gBust a e) := by
  obtain ⟨hO, e22, e22'⟩ := KA_O h
  obtain ⟨h1, h2, h3, ⟨E, R, m⟩, h5⟩ := h
  have hO' : nb n 6 4 ≤ 40 := by rw [nb_o (by omega)]; omega
  have hb := (SI_bN (i := 6) (by omega) (by omega) h1).1
  rw [if_pos rfl, if_neg (by omega)] at hb
  have hbk : bk a (gBust0 a e (tn (a 36 e))) := bk_up (Or.inl (by omega)) (bk_up (Or.inl (by omega)) (bk_up (Or.inl (by omega)) (bk_up (Or.inr ⟨rfl, by omega⟩) (bk_refl a))))
  have hrm := SI_rm hn hO' hb
  obtain ⟨S, e4, hS⟩ := hrm 1 (by decide)
  have hl := rm3_lg hrm (show 0 < 2 by decide)
  refine ⟨SI_bust hn hO' (SI_less (by omega) (by omega) hb), qt_snd (bk_qt hbk h2), rst_snd (bk_rst hbk h3), ?_, ?_⟩
  · rw [nb_o (show 4 ≠ 6 by omega), nb_o (show 5 ≠ 6 by omega)]
    exact ⟨E, R, MI_bust (by rw [← (MI_O m).2.1]; exact he) h43 e4 (by omega) (by omega) m⟩
  · unfold gBust gRep
    rw [snd_T, hbk.2, nb_o (show 0 ≠ 6 by omega)]
    exact h5
theorem KA_corr {n : Nat → Nat} {l0 l1 e v : Nat} {a : AS} (hn : sm8 (nb n 6) ≤ 512) (he : e < tn (a 0 35)) (hv : v ≤ 10000) (h : KA n l0 l1 a) : KA (nb n 6) l0 l1 (gCorr a e (nI v)) := by
  obtain ⟨hO, e22, e22'⟩ := KA_O h
  obtain ⟨h1, h2, h3, ⟨E, R, m⟩, h5⟩ := h
  have hO' : nb n 6 4 ≤ 40 := by rw [nb_o (by omega)]; omega
  have hb := (SI_bN (i := 6) (by omega) (by omega) h1).1
  rw [if_pos rfl, if_neg (by omega)] at hb
  have hbk : bk a (up2 (up2 a 0 0 (nI 0)) 41 (100 + e) (nI v)) := bk_up (Or.inl (by omega)) (bk_up (Or.inr ⟨rfl, by omega⟩) (bk_refl a))
  have hrm := SI_rm hn hO' hb
  obtain ⟨S, e4, hS⟩ := hrm 1 (by decide)
  have hl := rm3_lg hrm (show 0 < 2 by decide)
  refine ⟨SI_corr hn hO' (SI_less (by omega) (by omega) hb), qt_snd (bk_qt hbk h2), rst_snd (bk_rst hbk h3), ?_, ?_⟩
  · rw [nb_o (show 4 ≠ 6 by omega), nb_o (show 5 ≠ 6 by omega)]
    exact ⟨E, R, MI_corr (by rw [← (MI_O m).2.1]; exact he) hv e4 (by omega) (by omega) m⟩
  · unfold gCorr gRep
    rw [snd_T, hbk.2, nb_o (show 0 ≠ 6 by omega)]
    exact h5
