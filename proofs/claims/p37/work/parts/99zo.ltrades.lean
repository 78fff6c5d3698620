/-! trades -/
variable {Hh Hg : Nat → Nat}
theorem tr_69 {w N T act x y d : Nat} {v2 v3 : Int32} {μ : MP} {ν : NC} {b a : AS} (hw : 8200 < w) (hN : N + 1 ≤ 512) (hact : act < 12) (hd : d < 2) (hx1 : 1 ≤ x) (hx : x ≤ 100) (hy1 : 1 ≤ y) (hy : y ≤ 100) (hJ : JC N T μ ν a) (h : LR Zh b a) (h4 : ∀ t, t < 2 → tn (a 4 t) ≤ 19) (h20 : ∀ t, t < 2 → tn (a 20 t) ≤ 90) (hE : tn (a 0 35) ≤ 40) (hD : tn (a 0 44) ≤ 200) : lnR (N + 1) (T + 5) (b_L_trades_69 w μ ν b (nI act) v2 v3 (nI x) (nI y) (nI d)) := by
  unfold b_L_trades_69
  by_cases c3 : 3 ≤ act
  · rw [if_pos (show (3 : Int32) ≤ nI act from (nI_leI (a := 3) (b := act) (by decide) (by omega)).mpr c3)]
    by_cases c6 : 6 ≤ act
    · rw [if_pos (show (6 : Int32) ≤ nI act from (nI_leI (a := 6) (b := act) (by decide) (by omega)).mpr c6)]
      by_cases c9 : 9 ≤ act
      · rw [if_pos (show (9 : Int32) ≤ nI act from (nI_leI (a := 9) (b := act) (by decide) (by omega)).mpr c9)]
        by_cases c11 : act = 11
        · rw [if_pos (show nI act = (11 : Int32) by rw [c11]; rfl)]
          exact lnR_le (tr_day hJ h hD) (Nat.le_succ _) (by omega)
        · rw [if_neg (show ¬ nI act = (11 : Int32) from Ieq (b := 11) (by omega) (by decide) c11)]
          exact lnR_le (tr_exec hN (by omega) hx1 hx hJ h h4 h20) (Nat.le_refl _) (by omega)
      · rw [if_neg (show ¬ (9 : Int32) ≤ nI act from fun e => c9 ((nI_leI (a := 9) (b := act) (by decide) (by omega)).mp e))]
        by_cases cv : v3 &&& (96 : Int32) = (0 : Int32)
        · have e : (fun v34 : Int32 => if v3 &&& (96 : Int32) = (0 : Int32) then b_L_trades_647 w μ ν b (nI x) (nI d) v34 (201 : Int32) v3 else b_L_trades_647 w μ ν b (nI x) (nI d) v34 (30 : Int32) v3) = fun v34 => b_L_trades_647 w μ ν b (nI x) (nI d) v34 (nI 201) v3 := funext fun v34 => if_pos cv
          rw [e]
          exact tr_quote hw hN hd hx1 hx (by decide) (by decide) hJ h h4 h20 hE
        · have e : (fun v34 : Int32 => if v3 &&& (96 : Int32) = (0 : Int32) then b_L_trades_647 w μ ν b (nI x) (nI d) v34 (201 : Int32) v3 else b_L_trades_647 w μ ν b (nI x) (nI d) v34 (30 : Int32) v3) = fun v34 => b_L_trades_647 w μ ν b (nI x) (nI d) v34 (nI 30) v3 := funext fun v34 => if_neg cv
          rw [e]
          exact tr_quote hw hN hd hx1 hx (by decide) (by decide) hJ h h4 h20 hE
    · rw [if_neg (show ¬ (6 : Int32) ≤ nI act from fun e => c6 ((nI_leI (a := 6) (b := act) (by decide) (by omega)).mp e))]
      exact tr_req hN (by omega) hx1 hx hy1 hy hJ h h4 h20
  · rw [if_neg (show ¬ (3 : Int32) ≤ nI act from fun e => c3 ((nI_leI (a := 3) (b := act) (by decide) (by omega)).mp e))]
    exact tr_order hN hd hx1 hx hy1 hy hJ h h4 h20
theorem lk_trades {w N T act : Nat} {v2 v3 : Int32} {μ : MP} {ν : NC} {b a : AS} (hw : 8200 < w) (hN : N + 1 ≤ 512) (hact : act < 12) (hJ : JC N T μ ν a) (h : LR Zh b a) (h4 : ∀ t, t < 2 → tn (a 4 t) ≤ 19) (h20 : ∀ t, t < 2 → tn (a 20 t) ≤ 90) (hE : tn (a 0 35) ≤ 40) (hD : tn (a 0 44) ≤ 200) : lnR (N + 1) (T + 8) (f_L_trades w μ ν b (nI act) v2 v3) := by
  have k51 : ∀ x z : Nat, 1 ≤ x → x ≤ 100 → 1 ≤ z → z ≤ 100 → lnR (N + 1) (T + 8) (b_L_trades_51 w μ ν b (nI act) v2 v3 (nI x) (nI z) v3 (1 : Int32)) := fun x z hx1 hx hz1 hz => by
    obtain ⟨r, hr, el⟩ := lk_low w b v3 hz1 (show z < 2 ^ 31 by omega)
    unfold b_L_trades_51
    rw [el, Option.bind_some, show (1 : Int32) + nI r = nI (1 + r) from nI_add 1 r]
    simp only [yl]
    by_cases cs : v3 &&& (524288 : Int32) ≤ (0 : Int32)
    · rw [if_pos cs]
      exact lnR_le (tr_69 (d := 0) hw hN hact (by decide) hx1 hx (by omega) (by omega) hJ h h4 h20 hE hD) (Nat.le_refl _) (by omega)
    · rw [if_neg cs]
      exact lnR_le (tr_69 (d := 1) hw hN hact (by decide) hx1 hx (by omega) (by omega) hJ h h4 h20 hE hD) (Nat.le_refl _) (by omega)
  have k32 : ∀ x : Nat, x < 100 → lnR (N + 1) (T + 8) (b_L_trades_32 w μ ν b (nI act) v2 v3 (nI x) (1 : Int32)) := fun x hx => by
    unfold b_L_trades_32
    rw [show (1 : Int32) + nI x = nI (1 + x) from nI_add 1 x]
    simp only [yl]
    by_cases cv : v3 &&& (96 : Int32) = (0 : Int32)
    · rw [if_pos cv]
      exact k51 (1 + x) 100 (by omega) (by omega) (by decide) (by decide)
    · rw [if_neg cv]
      exact k51 (1 + x) 12 (by omega) (by omega) (by decide) (by decide)
  unfold f_L_trades
  by_cases cv : v2 &&& (96 : Int32) = (0 : Int32)
  · obtain ⟨r, hr, el⟩ := lk_low w b (v2 >>> ((7 : Int32) &&& 31)) (show 1 ≤ 100 by decide) (show 100 < 2 ^ 31 by decide)
    rw [if_pos cv, show (100 : Int32) = nI 100 from rfl, el, Option.bind_some]
    exact k32 r hr
  · obtain ⟨r, hr, el⟩ := lk_low w b (v2 >>> ((7 : Int32) &&& 31)) (show 1 ≤ 8 by decide) (show 8 < 2 ^ 31 by decide)
    rw [if_neg cv, show (8 : Int32) = nI 8 from rfl, el, Option.bind_some, show (40 : Int32) + nI r = nI (40 + r) from nI_add 40 r]
    exact k32 (40 + r) (by omega)
