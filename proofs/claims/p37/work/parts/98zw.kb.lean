/-! Coming and quoting, between calls. -/
theorem qtS_c {a b : AS} {t : Nat} (h3 : b 3 t = a 3 t) (h9 : b 9 t = a 9 t) (h10 : b 10 t = a 10 t) (h01 : b 0 1 = a 0 1) (hq : qtS a t) : qtS b t := by
  unfold qtS at hq ⊢
  rw [h3, h9, h10, h01]
  exact hq
theorem KA_come {w : Nat} {n : Nat → Nat} {l0 l1 s d : Nat} {a : AS} (hn : sm8 (nb n (1 + s)) ≤ 512) (hs : s < 2) (hw : 8192 < w) (hd : d ≤ tn (a 20 s)) (h : KA n l0 l1 a) : KA (nb n (1 + s)) l0 l1 (gComeL s d (up2 a 0 0 (nI 0))) ∧ ∃ (S : Nat) (P1 P2 : AS → Prop), S ≤ 8190 ∧ (∀ a, P1 a → wiOk a s S) ∧ (∀ a, P1 a → ¬ a 18 (8192 * s + tn (a 5 s)) ≤ nI 0 → P1 (gHd1 a s)) ∧ (∀ a, P2 a → wyOk a s) ∧ (∀ a, P2 a → isIn a s → f_X9_comes w (gPop a s) (nI s) (nI (wyE a s / 2 / 8192)) (nI (wyE a s / 2 % 8192)) = some (gComes (gPop a s) s (wyE a s / 2 / 8192) (wyE a s / 2 % 8192), 0)) ∧ (∀ i, i < d → coOk (gComeL s i (up2 a 0 0 (nI 0))) s S P1 ∧ P2 (gComeL s i (up2 a 0 0 (nI 0)))) ∧ gComeL s d (up2 a 0 0 (nI 0)) 0 0 = nI 0 := by
  obtain ⟨hO, -⟩ := KA_O h
  have h' := KA_00 (v := nI 0) h
  have h00 : up2 a 0 0 (nI 0) 0 0 = nI 0 := up2_s _ _ _ _
  have hd' : d ≤ tn (up2 a 0 0 (nI 0) 20 s) := by rw [up2_n _ _ (by omega)]; exact hd
  generalize up2 a 0 0 (nI 0) = b at h' h00 hd' ⊢
  obtain ⟨h1, h2, h3, ⟨E, R, m⟩, h5⟩ := h'
  have hO' : nb n (1 + s) 4 ≤ 40 := by rw [nb_o (by omega)]; exact hO
  have hb := SI_bCome hs h1
  have hrm := SI_rm hn hO' hb
  obtain ⟨S, e4, hS⟩ := hrm (1 - s) (by omega)
  have hK : n 4 + n 5 ≤ 1000 := by
    rw [sm8_nb (by omega)] at hn
    unfold sm8 at hn
    omega
  have hci : CI (nb n (1 + s)) l0 l1 (n 4 + n 5) (n 4) s b b := ⟨hb, h3 s hs, ⟨E, R, m⟩, oth_refl b s, Or.inl (fun _ _ => rfl)⟩
  refine ⟨?_, CI_ok hn hO' hs hK hw hd' e4 (by omega) hci h00⟩
  obtain ⟨t1, t2⟩ := CI_L hn hO' hs d b hd' hci
  generalize gComeL s d b = c at t1
  obtain ⟨u1, u2, ⟨E', R', m'⟩, u4, u5⟩ := t1
  have e01 : c 0 1 = b 0 1 := u4.1 1 (by decide) (by decide)
  refine ⟨SI_end u1, fun t ht => ?_, fun t ht i hi => ?_, ?_, ?_⟩
  · by_cases c1 : t = s
    · subst c1
      rcases u5 with u5 | u5
      · exact qtS_c (u5 3 (by omega)) (u5 9 (by omega)) (u5 10 (by omega)) e01 (h2 t ht)
      · intro _
        rw [u5]
        exact ⟨by omega, fun hh => by omega⟩
    · have et : t = 1 - s := by omega
      subst et
      exact qtS_c (u4.2.1 3 (by omega)) (u4.2.1 9 (by omega)) (u4.2.1 10 (by omega)) e01 (h2 (1 - s) ht)
  · by_cases c1 : t = s
    · subst c1
      exact u2 i hi
    · have et : t = 1 - s := by omega
      subst et
      rw [u4.2.1 5 (by omega)] at hi
      have := h3 (1 - s) ht i hi
      unfold hN at this ⊢
      split
      · rename_i h8
        rw [if_pos h8] at this
        rw [u4.2.2 i h8]
        exact this
      · rfl
  · rw [nb_o (show 4 ≠ 1 + s by omega), nb_o (show 5 ≠ 1 + s by omega)]
    exact ⟨E', R', m'⟩
  · rw [e01, nb_o (show 0 ≠ 1 + s by omega)]
    exact h5
/-- routing, between calls -/
theorem qt_routes {a : AS} {o : Nat} (hq : qt a) : qt (gRoutes a o) := by
  have h : bk a (gRouteL o 102 a) := ⟨fun k h1 h2 => funext fun i => gRouteL_k o 102 a k i (by omega) (by omega) (by omega) (by omega), gRouteL_k o 102 a 0 1 (by omega) (by omega) (by omega) (by omega)⟩
  unfold gRoutes
  split
  · exact bk_qt h hq
  · exact qt_snd (bk_qt h hq)
theorem gQL_k {p : Nat → Nat} {k j : Nat} (h : k = 5 ∨ k = 18 ∨ (k = 0 ∧ j = 1)) : ∀ (g i : Nat) (a : AS), gQL p g i a k j = a k j := by
  intro g
  induction g with
  | zero => exact fun i a => rfl
  | succ g ih =>
    intro i a
    show gQL p g (i + 1) (gRoutes a (p i)) k j = a k j
    rw [ih]
    exact gRoutes_l _ _ _ _ (by unfold lin; omega)
theorem qt_QL {p : Nat → Nat} : ∀ (g i : Nat) (a : AS), qt a → qt (gQL p g i a) := by
  intro g
  induction g with
  | zero => exact fun i a h => h
  | succ g ih => exact fun i a h => ih (i + 1) (gRoutes a (p i)) (qt_routes h)
theorem KA_quote {n : Nat → Nat} {l0 l1 v d x y K : Nat} {p : Nat → Nat} {a : AS} (hn : sm8 (nb n 6) ≤ 512) (hd : d < 2) (hx : x ≤ 10000) (hy : y ≤ 10000) (hK : K ≤ 40) (hp : rl a (fun i => p i + 1) K d) (h : KA n l0 l1 a) : KA (nb n 6) l0 l1 (gQuote a v d (nI x) (nI y) p K) ∧ ∀ j, j < K → rtOk (gQL p j 0 (gQuo0 a v d (nI x) (nI y))) := by
  obtain ⟨hO, e22, e22'⟩ := KA_O h
  obtain ⟨h1, h2, h3, ⟨E, R, m⟩, h5⟩ := h
  have hO' : nb n 6 4 ≤ 40 := by rw [nb_o (by omega)]; omega
  have hb := (SI_bN (i := 6) (by omega) (by omega) h1).1
  rw [if_pos rfl, if_neg (by omega)] at hb
  have hbk : bk a (gQuo0 a v d (nI x) (nI y)) := bk_up (Or.inl (by omega)) (bk_up (Or.inl (by omega)) (bk_up (Or.inr ⟨rfl, by omega⟩) (bk_refl a)))
  have hrm := SI_rm hn hO' hb
  obtain ⟨S, e4, hS⟩ := hrm 1 (by decide)
  have hl := rm3_lg hrm (show 0 < 2 by decide)
  have hpp : ∀ i, i < K → p i < tn (a 0 22) ∧ a 24 (40 + p i) ≠ nI 0 ∧ a 23 (p i) = nI d := fun i hi => by
    obtain ⟨o, o1, o2, o3, o4⟩ := hp.1 i hi
    have : p i = o := Nat.succ.inj o1
    rw [this]
    exact ⟨o2, o3, o4⟩
  have hj : ∀ j, j ≤ K → SI (nb n 6) 0 0 l0 l1 (gQL p j 0 (gQuo0 a v d (nI x) (nI y))) ∧ ∃ E', MI (n 4 + n 5) (n 4) E' R (gQL p j 0 (gQuo0 a v d (nI x) (nI y))) := fun j hjK => by
    refine ⟨SI_quote hn hO' hd (fun i hi => hpp i (by omega)) (SI_less (by omega) (by omega) hb), ?_⟩
    exact MI_quoL j 0 E S (gQuo0 a v d (nI x) (nI y)) (fun i _ hi => ⟨by rw [← e22]; exact (hpp i (by omega)).1, (hpp i (by omega)).2.1⟩) e4 (by omega) (by unfold lgN at hl; exact Nat.le_trans hl (by decide)) (MI_quo0 hx hy m)
  refine ⟨?_, fun j hjK => ?_⟩
  · obtain ⟨t1, E', t2⟩ := hj K (Nat.le_refl _)
    refine ⟨t1, qt_QL K 0 _ (bk_qt hbk h2), rst_c (funext fun i => gQL_k (by omega) K 0 _) (funext fun i => gQL_k (by omega) K 0 _) (bk_rst hbk h3), ?_, ?_⟩
    · rw [nb_o (show 4 ≠ 6 by omega), nb_o (show 5 ≠ 6 by omega)]
      exact ⟨E', R, t2⟩
    · show tn (gQL p K 0 (gQuo0 a v d (nI x) (nI y)) 0 1) ≤ _
      rw [gQL_k (by omega) K 0 _, hbk.2, nb_o (show 0 ≠ 6 by omega)]
      exact h5
  · obtain ⟨t1, E', t2⟩ := hj j (by omega)
    exact ⟨MI_fOk t1.1 t2, MI_frE t2, SI_roomS t1 hn hO' (by decide) (by decide)⟩
