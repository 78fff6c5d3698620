/-! A tick, to its end. -/
theorem qt_tk {a y : AS} {s : Nat} (e01 : tn (y 0 1) = tn (a 0 1) + 1) (e10 : y 10 s = a 10 s) (h9 : tn (y 9 s) = tn (a 0 1) + 1 ∨ y 9 s = a 9 s ∧ quN a 10 s + 1 ≠ 15) (h3 : y 3 s = a 3 s) (hlt : a 3 s = nI 0 ∨ quN a 10 s + 1 < 25) (hC : tn (a 10 s) ≤ tn (a 0 1)) (hq : qtS a s) : qtS y s := by
  intro hon
  rw [h3] at hon
  have hl := hlt.resolve_left hon
  obtain ⟨q1, q2⟩ := hq hon
  rw [e01, e10]
  unfold quN at hl h9
  refine ⟨by omega, fun h => ?_⟩
  rcases h9 with h9 | ⟨h9, h9'⟩
  · omega
  · rw [h9]
    exact q2 (by omega)
theorem qt_off {b : AS} : qt (gDown b) := fun s hs h => absurd (gDown_z b 3 s hs (by omega)) h
theorem tk1_0 {a b : AS} (h : b = gDown a) (i : Nat) (hi : i ≠ 2) : b 0 i = a 0 i := by rw [h, gDown_00, if_neg hi]
/-- one tick -/
theorem SI_tick {n : Nat → Nat} {rem l0 l1 : Nat} {a : AS} (hn : sm8 n ≤ 512) (hO : n 4 ≤ 40) (h : SI n 3 (rem + 1) l0 l1 a) (hq : qt a) (hT : tn (a 0 1) < 30000) :
    SI n 3 rem l0 l1 (gTk2 a).1 ∧ qt (gTk2 a).1 ∧ tn ((gTk2 a).1 0 1) = tn (a 0 1) + 1 := by
  obtain ⟨s0, s1, hc⟩ := SI_tick1 hn hO h hq hT
  obtain ⟨T, eT, hT', eT2, hk⟩ := clk h
  obtain ⟨X0, e90, hX0, f90⟩ := hk 9 0 (by decide) (by omega)
  obtain ⟨C0, e100, hC0, f100⟩ := hk 10 0 (by decide) (by omega)
  obtain ⟨C1, e101, hC1, f101⟩ := hk 10 1 (by decide) (by omega)
  obtain ⟨X1, e91, hX1, f91⟩ := hk 9 1 (by decide) (by omega)
  have e01' : a 0 1 + 1 = nI (T + 1) := by rw [eT]; exact nI_add T 1
  have e01 : tn (a 0 1 + 1) = tn (a 0 1) + 1 := by rw [e01', eT, tnI (by omega), tnI (by omega)]
  have hv0 := h.1.2.2 0 (by decide)
  have hv1 := h.1.2.2 1 (by decide)
  have q91 : quN a 9 1 = T - X1 := by unfold quN; rw [eT2, f91]
  have q101 : quN a 10 1 = T - C1 := by unfold quN; rw [eT2, f101]
  have q100 : quN a 10 0 = T - C0 := by unfold quN; rw [eT2, f100]
  rcases hc with ⟨hx, h0⟩ | ⟨b, hb, hb1⟩
  · generalize hx1 : (gTk1 a).1 = x1 at *
    have r3 : x1 3 = a 3 := by
      rw [hx]; split
      · rfl
      · rw [wS_r _ _ _ _ 3 (by decide) (by decide) (by decide) (by decide) (by decide)]; rfl
    have r10 : x1 10 = a 10 := by
      rw [hx]; split
      · rfl
      · rw [wS_r _ _ _ _ 10 (by decide) (by decide) (by decide) (by decide) (by decide)]; rfl
    have r0 : x1 0 = gTk0 a 0 := by
      rw [hx]; split
      · rfl
      · rw [wS_r _ _ _ _ 0 (by decide) (by decide) (by decide) (by decide) (by decide)]
    have r01 : x1 0 1 = a 0 1 + 1 := by rw [r0]; rfl
    have r9 : ∀ t, t < 2 → x1 9 t = if t = 0 ∧ ¬ a 3 0 = nI 0 ∧ (10 ≤ quN a 9 0 + 1 ∨ quN a 10 0 + 1 = 15) then a 0 1 + 1 else a 9 t := fun t ht => by
      rw [hx]
      by_cases c : a 3 0 = nI 0
      · rw [if_pos c, if_neg (fun h => h.2.1 c)]; rfl
      · rw [if_neg c, wS_9 (x := gTk0 a) (hv0.2.2.2.2.2.2.2.2.1 c)]
        by_cases c1 : t = 0 ∧ (10 ≤ quN a 9 0 + 1 ∨ quN a 10 0 + 1 = 15)
        · rw [if_pos c1, if_pos ⟨c1.1, c, c1.2⟩]; rfl
        · rw [if_neg c1, if_neg (fun h => c1 ⟨h.1, h.2.2⟩)]; rfl
    have qt0 : ∀ y : AS, y 0 1 = a 0 1 + 1 → y 10 0 = a 10 0 → y 9 0 = x1 9 0 → y 3 0 = a 3 0 → qtS y 0 := fun y h1 h2 h3 h4 => by
      by_cases c : a 3 0 = nI 0
      · exact fun hon => absurd (h4.trans c) hon
      · refine qt_tk (by rw [h1, e01]) h2 ?_ h4 h0 (by omega) (hq 0 (by decide))
        rw [h3, r9 0 (by decide)]
        by_cases c1 : 10 ≤ quN a 9 0 + 1 ∨ quN a 10 0 + 1 = 15
        · rw [if_pos ⟨rfl, c, c1⟩]; exact Or.inl e01
        · rw [if_neg (fun h => c1 h.2.2)]; exact Or.inr ⟨rfl, fun h => c1 (Or.inr h)⟩
    by_cases c1 : a 3 1 = nI 0
    · have e2 : (gTk2 a).1 = x1 := by
        unfold gTk2
        rw [hx1, r3, if_pos c1]
      rw [e2]
      refine ⟨s1, fun s hs => ?_, by rw [r01, e01]⟩
      rcases (show s = 0 ∨ s = 1 by omega) with rfl | rfl
      · exact qt0 x1 r01 (by rw [r10]) rfl (by rw [r3])
      · exact fun hon => absurd (by rw [r3]; exact c1) hon
    · have hup : x1 0 2 ≠ nI 0 := by rw [r0]; exact hv1.2.2.2.2.2.2.2.2.1 c1
      have e2 : (gTk2 a).1 = if 25 ≤ T - C1 + 1 then gDown (if 10 ≤ T - X1 + 1 then wB x1 1 else x1) else wS x1 1 (10 ≤ T - X1 + 1) (T - C1 + 1 = 15) := by
        unfold gTk2
        rw [hx1, r3, if_neg c1]
        have := gWt_n (x := x1) (s := 1) (T := T + 1) (X := X1) (C := C1) (r01.trans e01') (by omega) (by rw [r9 1 (by decide), if_neg (fun h => absurd h.1 (by decide))]; exact e91) (by omega) (by rw [r10]; exact e101) (by omega)
        rw [this, show T + 1 - C1 = T - C1 + 1 by omega, show T + 1 - X1 = T - X1 + 1 by omega]
      rw [e2]
      have hon : ¬ x1 3 1 = nI 0 := by rw [r3]; exact c1
      by_cases c2 : 25 ≤ T - C1 + 1
      · rw [if_pos c2]
        refine ⟨?_, qt_off, ?_⟩
        · by_cases c3 : 10 ≤ T - X1 + 1
          · rw [if_pos c3]; exact SI_beatdown hn hO hon s1
          · rw [if_neg c3]; exact SI_cut (by decide) s1
        · rw [gDown_00, if_neg (by decide)]
          by_cases c3 : 10 ≤ T - X1 + 1
          · rw [if_pos c3, (w_10 x1 1 0).2.2.1, r01, e01]
          · rw [if_neg c3, r01, e01]
      · rw [if_neg c2]
        obtain ⟨Q1, Q2⟩ := hq 1 (by decide) c1
        have hf0 : wS x1 1 (10 ≤ T - X1 + 1) (T - C1 + 1 = 15) 0 = x1 0 := wS_r _ _ _ _ 0 (by decide) (by decide) (by decide) (by decide) (by decide)
        have hf3 : wS x1 1 (10 ≤ T - X1 + 1) (T - C1 + 1 = 15) 3 = x1 3 := wS_r _ _ _ _ 3 (by decide) (by decide) (by decide) (by decide) (by decide)
        have hf10 : wS x1 1 (10 ≤ T - X1 + 1) (T - C1 + 1 = 15) 10 = x1 10 := wS_r _ _ _ _ 10 (by decide) (by decide) (by decide) (by decide) (by decide)
        refine ⟨?_, fun s hs => ?_, by rw [hf0, r01, e01]⟩
        · by_cases c3 : 10 ≤ T - X1 + 1 ∨ T - C1 + 1 = 15
          · rw [← wS_91_1 hup c3]
            have z1 : tn (a 3 1) ≠ 0 := fun h => c1 ((tn0 (nn01 hv1.2.2.2.2.2.2.1)).mp h)
            have z0 : tn (a 3 0) ≠ 0 ↔ a 3 0 ≠ nI 0 := not_congr (tn0 (nn01 hv0.2.2.2.2.2.2.1))
            have hp := phs_tk2 (u := tn (a 0 2)) (o1 := tn (a 3 1)) (o0 := tn (a 3 0)) (dH := quN a 10 1) (eH := quN a 9 1) (dT := quN a 10 0) (q0 := tn (a 20 0)) (la := laN a) z1 (by omega) (by omega)
            simp only [z0] at hp
            have hph : phN 3 (tkA a (a 0 1 + 1)) + ((if a 3 0 ≠ nI 0 ∧ quN a 10 0 + 1 = 15 then 1 else 0) + ((if 10 ≤ quN a 9 1 + 1 then 1 else 0) + (if quN a 10 1 + 1 = 15 then 1 else 0))) ≤ phN 3 a := by
              have g : phN 3 a = phs (tn (a 0 2)) (tn (a 3 1)) (tn (a 3 0)) (quN a 10 1) (quN a 9 1) (quN a 10 0) (tn (a 20 0)) (laN a) := phX_3 _ _ _ _ _ _ _ _ _
              rw [phN_tk e01 (by omega) (by omega), g, e01, Nat.sub_self]
              rw [if_pos (show 10 ≤ quN a 9 1 + 1 ∨ quN a 10 1 + 1 = 15 by omega)] at hp
              omega
            have := SI_tk1 (y0 := if quN a 10 1 + 1 = 15 then 1 else 0) (y1 := (if 10 ≤ quN a 9 1 + 1 then 1 else 0) + (if quN a 10 1 + 1 = 15 then 1 else 0)) hn hO h hT (Or.inr rfl) hph (by split <;> split <;> omega) h0
            have ex : (if a 3 0 = nI 0 then tkA a (a 0 1 + 1) else wS (tkA a (a 0 1 + 1)) 0 (10 ≤ quN a 9 0 + 1) (quN a 10 0 + 1 = 15)) = up2 x1 9 1 (x1 0 1) := by
              have e9 : tkA a (a 0 1 + 1) = up2 (gTk0 a) 9 1 (a 0 1 + 1) := rfl
              rw [e9, r01, hx]
              split
              · rfl
              · rename_i c
                exact wS_91_0 (hv0.2.2.2.2.2.2.2.2.1 c)
            rw [ex, q91, q101] at this
            generalize hy : up2 x1 9 1 (x1 0 1) = y at this ⊢
            have y3 : ¬ y 3 1 = nI 0 := by
              rw [← hy, up2_n _ _ (by omega)]; exact hon
            unfold wS
            by_cases cp : 10 ≤ T - X1 + 1
            · rw [if_pos cp] at this ⊢
              by_cases cq : T - C1 + 1 = 15
              · rw [if_pos cq] at this ⊢
                refine SI_test1 hn hO ?_ (SI_ses1 hn hO (by decide) y3 ?_)
                · unfold wB; rw [gSends_r _ _ _ _ _ _ _ 3 (by decide) (by decide) (by decide) (by decide) (by decide)]; exact y3
                · rw [show l1 + 1 + 1 = l1 + (1 + 1) by omega]; exact this
              · rw [if_neg cq] at this ⊢
                exact SI_ses1 hn hO (by decide) y3 this
            · rw [if_neg cp] at this ⊢
              have cq := c3.resolve_left cp
              rw [if_pos cq] at this ⊢
              exact SI_test1 hn hO y3 (by rw [Nat.zero_add] at this; exact this)
          · unfold wS
            rw [if_neg (fun h => c3 (Or.inr h)), if_neg (fun h => c3 (Or.inl h))]
            exact s1
        · rcases (show s = 0 ∨ s = 1 by omega) with rfl | rfl
          · refine qt0 _ (by rw [hf0, r01]) (by rw [hf10, r10]) ?_ (by rw [hf3, r3])
            rw [wS_9 hup, if_neg (fun h => absurd h.1 (by decide))]
          · refine qt_tk (by rw [hf0, r01, e01]) (by rw [hf10, r10]) ?_ (by rw [hf3, r3]) (Or.inr (by omega)) (by omega) (hq 1 (by decide))
            rw [wS_9 hup, r01]
            by_cases c3 : 10 ≤ T - X1 + 1 ∨ T - C1 + 1 = 15
            · rw [if_pos ⟨rfl, c3⟩]; exact Or.inl e01
            · rw [if_neg (fun h => c3 h.2), r9 1 (by decide), if_neg (fun h => absurd h.1 (by decide))]
              exact Or.inr ⟨rfl, by omega⟩
  · have e2 : (gTk2 a).1 = gDown b := by
      unfold gTk2
      rw [hb, if_pos (gDown_z b 3 1 (by decide) (by omega))]
    rw [e2]
    rw [hb] at s1
    exact ⟨s1, qt_off, by rw [gDown_00, if_neg (by decide), hb1, e01]⟩
