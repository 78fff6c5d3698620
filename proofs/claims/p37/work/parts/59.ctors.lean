set_option maxHeartbeats 4000000 in
set_option maxRecDepth 100000 in
theorem k_book (l : Launch) (σ : RS) (q0 : Nat) (price size : Int32) : ∀ D E sz, Met l yX1_init gwX1_init ({ frames := 1, cells := 0, slots := 0, locals := 13 } : Room) (cP D E sz σ [(q0, .inr (4, [.int 0, .int 0, .int 0, .int 0]))] [.ref q0, .int price, .int size]) (cQ D E sz σ [q0] (pV (fun u => u = (σ, [(q0, .inr (4, [.int price, .int size, .int 0, .int 0]))])))) (0) (0) (Aof σ [q0] sz) := by
  intro D E sz
  refine g_of (cc := cX1_init) (maxL := 3) (ret := none) (own := "TradeLine$Book") (by decide) rfl rfl (Nat.le_of_ble_eq_true rfl) ?_
  intro p e s m args below meth c C hr hin hz ha hwr
  refine g_lv (lv' := [(0, .ref q0), (1, .int price), (2, .int size)]) [0, 1, 2] rfl ?_
  refine g_aload_n C dX1_init_0 rfl 0 rfl ?_
  refine g_objInit C gw_1088 gw_38 gw_39 (Nat.le_of_ble_eq_true rfl) (Nat.le_of_ble_eq_true rfl) dX1_init_1 ?_
  refine g_aload_n C dX1_init_4 rfl 0 rfl ?_
  refine g_iload_n C dX1_init_5 rfl 1 rfl ?_
  refine g_putL (ref := "TradeLine$Book") C 0 rfl (hwr _ (List.mem_cons_self ..)) rfl inGX1 tyX1 tyX1_ok nmX1 0 (by decide) gw_1089 (fun _ h => h) rfl (tyX1_ok 0 (by decide)) rfl rfl (by simp) (ex' := [(q0, .inr (4, [.int price, .int 0, .int 0, .int 0]))]) rfl dX1_init_6 ?_
  refine g_aload_n C dX1_init_9 rfl 0 rfl ?_
  refine g_iload_n C dX1_init_10 rfl 2 rfl ?_
  refine g_putL (ref := "TradeLine$Book") C 0 rfl (hwr _ (List.mem_cons_self ..)) rfl inGX1 tyX1 tyX1_ok nmX1 1 (by decide) gw_1092 (fun _ h => h) rfl (tyX1_ok 1 (by decide)) rfl rfl (by simp) (ex' := [(q0, .inr (4, [.int price, .int size, .int 0, .int 0]))]) rfl dX1_init_11 ?_
  exact g_vret C hr hz (stq_rfl _) rfl (fun j x h => by match j, h with | 0, h => cases h; exact Or.inl (List.mem_cons_self ..)) dX1_init_14
set_option maxHeartbeats 4000000 in
set_option maxRecDepth 100000 in
theorem k_ord (l : Launch) (σ : RS) (q0 : Nat) (number sells price size : Int32) (hb : boB sells = true) : ∀ D E sz, Met l yX4_init gwX4_init ({ frames := 2, cells := 2, slots := 8, locals := 50 } : Room) (cP D E sz σ [(q0, .inr (7, [.int 0, .int 0, .null, .null, .int 0, .int 0, .int 0, .int 0]))] [.ref q0, .int number, .int sells, .int price, .int size]) (cQ D E sz σ [q0] (pV (fun u => ∃ q1 q2, u = (σ, [(q0, .inr (7, [.int number, .int sells, .ref q1, .ref q2, .int 0, .int 0, .int 0, .int 0])), (q1, .inr (4, [.int price, .int size, .int 0, .int 0])), (q2, .inr (4, [.int 0, .int 0, .int 0, .int 0]))])))) (2) (8) (Aof σ [q0] sz) := by
  intro D E sz
  refine g_of (cc := cX4_init) (maxL := 5) (ret := none) (own := "TradeLine$Order") (by decide) rfl rfl (Nat.le_of_ble_eq_true rfl) ?_
  intro p e s m args below meth c C hr hin hz ha hwr
  refine g_lv (lv' := [(0, .ref q0), (1, .int number), (2, .int sells), (3, .int price), (4, .int size)]) [0, 1, 2, 3, 4] rfl ?_
  refine g_aload_n C dX4_init_0 rfl 0 rfl ?_
  refine g_objInit C gw_1082 gw_38 gw_39 (Nat.le_of_ble_eq_true rfl) (Nat.le_of_ble_eq_true rfl) dX4_init_1 ?_
  refine g_aload_n C dX4_init_4 rfl 0 rfl ?_
  refine g_iload_n C dX4_init_5 rfl 1 rfl ?_
  refine g_putLF (ref := "TradeLine$Order") C 0 rfl (hwr _ (List.mem_cons_self ..)) rfl inGX4 tyX4 tyX4_ok nmX4 0 (by decide) gw_1109 (fun _ h => h) rfl hin rfl (tyX4_ok 0 (by decide)) rfl rfl (by simp) (ex' := [(q0, .inr (7, [.int number, .int 0, .null, .null, .int 0, .int 0, .int 0, .int 0]))]) rfl dX4_init_6 ?_
  refine g_aload_n C dX4_init_9 rfl 0 rfl ?_
  refine g_iload_n C dX4_init_10 rfl 2 rfl ?_
  refine g_putLF (ref := "TradeLine$Order") C 0 rfl (hwr _ (List.mem_cons_self ..)) rfl inGX4 tyX4 tyX4_ok nmX4 1 (by decide) gw_1111 (fun _ h => h) rfl hin rfl (tyX4_ok 1 (by decide)) (boB_n hb) (boB_f hb) (by simp) (ex' := [(q0, .inr (7, [.int number, .int sells, .null, .null, .int 0, .int 0, .int 0, .int 0]))]) rfl dX4_init_11 ?_
  refine g_aload_n C dX4_init_14 rfl 0 rfl ?_
  refine g_new (ci := 4) C inGX1 tyX1 tyX1_ok gw_1083 gw_1084 gw_31 rfl (fs := [.int 0, .int 0, .int 0, .int 0]) (fun j hj => match j, hj with | 0, _ => rfl | 1, _ => rfl | 2, _ => rfl | 3, _ => rfl) (by decide) (by decide) dX4_init_15 (fun q1 hq1 q1s => ?_)
  refine g_dup C dX4_init_18 rfl ?_
  refine g_iload_n C dX4_init_19 rfl 3 rfl ?_
  refine g_iload C dX4_init_20 4 rfl ?_
  refine g_cI (n := 2) (exc := [(q1, .inr (4, [.int 0, .int 0, .int 0, .int 0]))]) (exr := [(q0, .inr (7, [.int number, .int sells, .null, .null, .int 0, .int 0, .int 0, .int 0]))]) C [_, _] _ rfl rfl [1] [0] rfl rfl rfl rfl (by decide) (fun q h => by simp at h; exact ⟨0, _, by rw [h]; rfl⟩) (fun q h => by simp at h; rw [h]; exact hq1) (fun sz => k_book l σ q1 price size D E sz) rfl gw_1087 gw_31 gw_1085 gw_1086 rfl ⟨by decide +kernel, by decide +kernel, by decide +kernel⟩ ⟨rfl, rfl⟩ ⟨Nat.le_of_ble_eq_true rfl, Nat.le_of_ble_eq_true rfl⟩ (Nat.le_of_ble_eq_true rfl) dX4_init_22 ⟨by decide, by decide⟩ (fun u hp hx => ?_)
  obtain rfl := hp
  refine g_ex (ex' := [(q0, .inr (7, [.int number, .int sells, .null, .null, .int 0, .int 0, .int 0, .int 0])), (q1, .inr (4, [.int price, .int size, .int 0, .int 0]))]) [1, 0] rfl rfl ?_
  refine g_putLF (ref := "TradeLine$Order") C 0 rfl (hwr _ (List.mem_cons_self ..)) rfl inGX4 tyX4 tyX4_ok nmX4 2 (by decide) gw_1113 (fun _ h => h) rfl hin rfl (tyX4_ok 2 (by decide)) rfl rfl (by simp) (ex' := [(q0, .inr (7, [.int number, .int sells, .ref q1, .null, .int 0, .int 0, .int 0, .int 0])), (q1, .inr (4, [.int price, .int size, .int 0, .int 0]))]) rfl dX4_init_25 ?_
  refine g_aload_n C dX4_init_28 rfl 0 rfl ?_
  refine g_new (ci := 4) C inGX1 tyX1 tyX1_ok gw_1083 gw_1084 gw_31 rfl (fs := [.int 0, .int 0, .int 0, .int 0]) (fun j hj => match j, hj with | 0, _ => rfl | 1, _ => rfl | 2, _ => rfl | 3, _ => rfl) (by decide) (by decide) dX4_init_29 (fun q2 hq2 q2s => ?_)
  refine g_dup C dX4_init_32 rfl ?_
  refine g_iconst (v := 0) C dX4_init_33 (by decide) ?_
  refine g_iconst (v := 0) C dX4_init_34 (by decide) ?_
  refine g_cI (n := 2) (exc := [(q2, .inr (4, [.int 0, .int 0, .int 0, .int 0]))]) (exr := [(q0, .inr (7, [.int number, .int sells, .ref q1, .null, .int 0, .int 0, .int 0, .int 0])), (q1, .inr (4, [.int price, .int size, .int 0, .int 0]))]) C [_, _] _ rfl rfl [2] [0, 1] rfl rfl rfl rfl (by decide) (fun q h => by simp at h; exact ⟨0, _, by rw [h]; rfl⟩) (fun q h => by simp at h; rw [h]; exact hq2) (fun sz => k_book l σ q2 0 0 D E sz) rfl gw_1087 gw_31 gw_1085 gw_1086 rfl ⟨by decide +kernel, by decide +kernel, by decide +kernel⟩ ⟨rfl, rfl⟩ ⟨Nat.le_of_ble_eq_true rfl, Nat.le_of_ble_eq_true rfl⟩ (Nat.le_of_ble_eq_true rfl) dX4_init_35 ⟨by decide, by decide⟩ (fun u hp hx => ?_)
  obtain rfl := hp
  refine g_ex (ex' := [(q0, .inr (7, [.int number, .int sells, .ref q1, .null, .int 0, .int 0, .int 0, .int 0])), (q1, .inr (4, [.int price, .int size, .int 0, .int 0])), (q2, .inr (4, [.int 0, .int 0, .int 0, .int 0]))]) [1, 2, 0] rfl rfl ?_
  refine g_putLF (ref := "TradeLine$Order") C 0 rfl (hwr _ (List.mem_cons_self ..)) rfl inGX4 tyX4 tyX4_ok nmX4 3 (by decide) gw_1115 (fun _ h => h) rfl hin rfl (tyX4_ok 3 (by decide)) rfl rfl (by simp) (ex' := [(q0, .inr (7, [.int number, .int sells, .ref q1, .ref q2, .int 0, .int 0, .int 0, .int 0])), (q1, .inr (4, [.int price, .int size, .int 0, .int 0])), (q2, .inr (4, [.int 0, .int 0, .int 0, .int 0]))]) rfl dX4_init_38 ?_
  exact g_vret C hr hz (stq_rfl _) ⟨q1, q2, rfl⟩ (fun j x h => by match j, h with | 0, h => cases h; exact Or.inl (List.mem_cons_self ..) | 1, h => cases h; exact Or.inr q1s | 2, h => cases h; exact Or.inr q2s) dX4_init_41
set_option maxHeartbeats 4000000 in
set_option maxRecDepth 100000 in
theorem k_exe (l : Launch) (σ : RS) (q0 i j : Nat) (size day : Int32) (l20 : live σ 20 i) (l25 : live σ 25 j) : ∀ D E sz, Met l yX2_init gwX2_init ({ frames := 1, cells := 0, slots := 0, locals := 13 } : Room) (cP D E sz σ [(q0, .inr (5, [.null, .int 0, .int 0, .int 0, .int 0, .int 0, .int 0, .int 0, .int 0]))] [.ref q0, .ref (rA σ 20 i), .ref (rA σ 25 j), .int size, .int day]) (cQ D E sz σ [q0] (pV (fun u => u = (σ, [(q0, .inr (5, [.ref (rA σ 20 i), .int (rM σ 25 j 0), .int size, .int day, .int (rM σ 25 j 1), .int 0, .int 0, .int 0, .int 0]))])))) (0) (0) (Aof σ [q0] sz) := by
  intro D E sz
  refine g_of (cc := cX2_init) (maxL := 5) (ret := none) (own := "TradeLine$Execution") (by decide) rfl rfl (Nat.le_of_ble_eq_true rfl) ?_
  intro p e s m args below meth c C hr hin hz ha hwr
  refine g_lv (lv' := [(0, .ref q0), (1, .ref (rA σ 20 i)), (2, .ref (rA σ 25 j)), (3, .int size), (4, .int day)]) [0, 1, 2, 3, 4] rfl ?_
  refine g_aload_n C dX2_init_0 rfl 0 rfl ?_
  refine g_objInit C gw_898 gw_38 gw_39 (Nat.le_of_ble_eq_true rfl) (Nat.le_of_ble_eq_true rfl) dX2_init_1 ?_
  refine g_aload_n C dX2_init_4 rfl 0 rfl ?_
  refine g_aload_n C dX2_init_5 rfl 1 rfl ?_
  refine g_putLF (ref := "TradeLine$Execution") C 0 rfl (hwr _ (List.mem_cons_self ..)) rfl inGX2 tyX2 tyX2_ok nmX2 0 (by decide) gw_899 (fun _ h => h) rfl hin rfl (tyX2_ok 0 (by decide)) rfl rfl (by simp) (ex' := [(q0, .inr (5, [.ref (rA σ 20 i), .int 0, .int 0, .int 0, .int 0, .int 0, .int 0, .int 0, .int 0]))]) rfl dX2_init_6 ?_
  refine g_aload_n C dX2_init_9 rfl 0 rfl ?_
  refine g_aload_n C dX2_init_10 rfl 2 rfl ?_
  refine g_get (k := 25) (i := j) (ref := "TradeLine$Quote") C rfl l25 rfl rfl inGX6 0 (by decide) gw_155 (fun _ h => h) rfl dX2_init_11 ?_
  refine g_putLF (ref := "TradeLine$Execution") C 0 rfl (hwr _ (List.mem_cons_self ..)) rfl inGX2 tyX2 tyX2_ok nmX2 1 (by decide) gw_901 (fun _ h => h) rfl hin rfl (tyX2_ok 1 (by decide)) rfl rfl (by simp) (ex' := [(q0, .inr (5, [.ref (rA σ 20 i), .int (rM σ 25 j 0), .int 0, .int 0, .int 0, .int 0, .int 0, .int 0, .int 0]))]) rfl dX2_init_14 ?_
  refine g_aload_n C dX2_init_17 rfl 0 rfl ?_
  refine g_aload_n C dX2_init_18 rfl 2 rfl ?_
  refine g_get (k := 25) (i := j) (ref := "TradeLine$Quote") C rfl l25 rfl rfl inGX6 1 (by decide) gw_156 (fun _ h => h) rfl dX2_init_19 ?_
  refine g_putL (ref := "TradeLine$Execution") C 0 rfl (hwr _ (List.mem_cons_self ..)) rfl inGX2 tyX2 tyX2_ok nmX2 4 (by decide) gw_907 (fun _ h => h) rfl (tyX2_ok 4 (by decide)) rfl rfl (by simp) (ex' := [(q0, .inr (5, [.ref (rA σ 20 i), .int (rM σ 25 j 0), .int 0, .int 0, .int (rM σ 25 j 1), .int 0, .int 0, .int 0, .int 0]))]) rfl dX2_init_22 ?_
  refine g_aload_n C dX2_init_25 rfl 0 rfl ?_
  refine g_iload_n C dX2_init_26 rfl 3 rfl ?_
  refine g_putLF (ref := "TradeLine$Execution") C 0 rfl (hwr _ (List.mem_cons_self ..)) rfl inGX2 tyX2 tyX2_ok nmX2 2 (by decide) gw_903 (fun _ h => h) rfl hin rfl (tyX2_ok 2 (by decide)) rfl rfl (by simp) (ex' := [(q0, .inr (5, [.ref (rA σ 20 i), .int (rM σ 25 j 0), .int size, .int 0, .int (rM σ 25 j 1), .int 0, .int 0, .int 0, .int 0]))]) rfl dX2_init_27 ?_
  refine g_aload_n C dX2_init_30 rfl 0 rfl ?_
  refine g_iload C dX2_init_31 4 rfl ?_
  refine g_putLF (ref := "TradeLine$Execution") C 0 rfl (hwr _ (List.mem_cons_self ..)) rfl inGX2 tyX2 tyX2_ok nmX2 3 (by decide) gw_905 (fun _ h => h) rfl hin rfl (tyX2_ok 3 (by decide)) rfl rfl (by simp) (ex' := [(q0, .inr (5, [.ref (rA σ 20 i), .int (rM σ 25 j 0), .int size, .int day, .int (rM σ 25 j 1), .int 0, .int 0, .int 0, .int 0]))]) rfl dX2_init_33 ?_
  exact g_vret C hr hz (stq_rfl _) rfl (fun j x h => by match j, h with | 0, h => cases h; exact Or.inl (List.mem_cons_self ..)) dX2_init_36
def bF (price size : Int32) : Nat → Int32 := fun j => match j with
  | 0 => price
  | 1 => size
  | _ => 0
def oF (number sells : Int32) : Nat → Int32 := fun j => match j with
  | 0 => number
  | 1 => sells
  | _ => 0
def xF (venue size day price : Int32) : Nat → Int32 := fun j => match j with
  | 1 => venue
  | 2 => size
  | 3 => day
  | 4 => price
  | _ => 0
def nwOrd (μ : MP) (ν : NC) (number sells price size : Int32) : MP × NC :=
  ((up2 (up2 (up2 μ.1 21 (2 * ν.2 20) (bF price size)) 21 (2 * ν.2 20 + 1) (bF 0 0)) 20 (ν.2 20) (oF number sells), μ.2), chg (ν.1, up1 (up1 (up1 ν.2 21 (2 * ν.2 20 + 1)) 21 (2 * ν.2 20 + 1 + 1)) 20 (ν.2 20 + 1)) 3 16)
def nwOrdOk (μ : MP) (ν : NC) : Prop := ν.2 21 = 2 * ν.2 20 ∧ rfO μ ν 20 ∧ ∀ i, i < ν.2 23 → μ.2 23 i 0 < ν.2 20
def nwExe (μ : MP) (ν : NC) (i : Nat) (venue size day price : Int32) : MP × NC :=
  ((up2 μ.1 23 (ν.2 23) (xF venue size day price), up3 μ.2 23 (ν.2 23) 0 i), chg (ν.1, up1 ν.2 23 (ν.2 23 + 1)) 1 9)
theorem mn_ord {μ : MP} {ν : NC} (h : nwOrdOk μ ν) (number sells price size : Int32) : mn ν (nwOrd μ ν number sells price size).2 :=
  mn_trans (mn_trans (mn_trans (mn_C (ν := ν) (k := 21) (v := 2 * ν.2 20 + 1) (by omega) (by rw [h.1]; omega)) (mn_C (ν := (ν.1, up1 ν.2 21 (2 * ν.2 20 + 1))) (k := 21) (v := 2 * ν.2 20 + 1 + 1) (by omega) (by show up1 ν.2 21 (2 * ν.2 20 + 1) 21 ≤ 2 * ν.2 20 + 1 + 1; rw [up1_s]; omega))) (mn_C (ν := (ν.1, up1 (up1 ν.2 21 (2 * ν.2 20 + 1)) 21 (2 * ν.2 20 + 1 + 1))) (k := 20) (v := ν.2 20 + 1) (by omega) (by show up1 (up1 ν.2 21 (2 * ν.2 20 + 1)) 21 (2 * ν.2 20 + 1 + 1) 20 ≤ ν.2 20 + 1; rw [up1_n _ _ (by decide), up1_n _ _ (by decide)]; omega))) (mn_chg _ _ _)
theorem kc_ord (μ : MP) (ν : NC) (number sells price size : Int32) : kc (nwOrd μ ν number sells price size).2 = kc ν + 3 ∧ ks (nwOrd μ ν number sells price size).2 = ks ν + 16 := ⟨kc_chg _ _ _, ks_chg _ _ _⟩
theorem mn_exe (μ : MP) (ν : NC) (i : Nat) (venue size day price : Int32) : mn ν (nwExe μ ν i venue size day price).2 := mn_trans (mn_C (ν := ν) (k := 23) (v := ν.2 23 + 1) (by omega) (by omega)) (mn_chg _ _ _)
theorem kc_exe (μ : MP) (ν : NC) (i : Nat) (venue size day price : Int32) : kc (nwExe μ ν i venue size day price).2 = kc ν + 1 ∧ ks (nwExe μ ν i venue size day price).2 = ks ν + 9 := ⟨kc_chg _ _ _, ks_chg _ _ _⟩
theorem wld_exe {D : va_G} {E : Nat → ClassId} {A : Nat → Prop} {μ : MP} {ν : NC} {a : AS} {Ad : Nat → Nat → Nat} {H : Heap} {q i : Nat} {venue size day price : Int32} (hok : rfO μ ν 23) (hq : A q)
    (h : wld D E A (zS μ ν a Ad) [(q, .inr (5, [.ref (Ad 20 i), .int venue, .int size, .int day, .int price, .int 0, .int 0, .int 0, .int 0]))] H) :
    wld D E A (zS (nwExe μ ν i venue size day price).1 (nwExe μ ν i venue size day price).2 a (up2 Ad 23 (ν.2 23) q)) [] H := by
  refine wld_chg 1 9 (wld_adopt (σ' := zS (up2 μ.1 23 (ν.2 23) (xF venue size day price), up3 μ.2 23 (ν.2 23) 0 i) (ν.1, up1 ν.2 23 (ν.2 23 + 1)) a (up2 Ad 23 (ν.2 23) q)) (ex' := []) (k := 23) (i := ν.2 23) (n := 0) h rfl rfl (by decide) rfl rfl (fun j => rfl) ?_ (fun k' i' hl => ?_) hq [] rfl rfl (fun j h => by simp at h))
  · have e1 : mx (up2 μ.1 23 (ν.2 23) (xF venue size day price)) a 23 (ν.2 23) = xF venue size day price := by rw [mx_lo _ _ (show Nat.ble 23 39 = true from rfl), up2_s]
    show (Sum.inr (5, fvs (mx (up2 μ.1 23 (ν.2 23) (xF venue size day price)) a 23 (ν.2 23)) ν.1 (up3 μ.2 23 (ν.2 23) 0 i 23 (ν.2 23)) (up2 Ad 23 (ν.2 23) q) 23 (ν.2 23)) : va_E) = _
    rw [e1, up3_s]
    show (Sum.inr (5, [Value.ref (up2 Ad 23 (ν.2 23) q 20 (up1 (μ.2 23 (ν.2 23)) 0 i 0)), .int venue, .int size, .int day, .int price, .int 0, .int 0, .int 0, .int 0]) : va_E) = _
    rw [up2_n _ _ (by omega), up1_s]
  · have hl1 : i' < ν.2 k' := hl.1
    have hne : ¬ (k' = 23 ∧ i' = ν.2 23) := fun e => by rw [e.1, e.2] at hl1; omega
    show ctg E (mx (up2 μ.1 23 (ν.2 23) (xF venue size day price)) a k' i') ν.1 (up3 μ.2 23 (ν.2 23) 0 i k' i') (up2 Ad 23 (ν.2 23) q) k' i' = ctg E (mx μ.1 a k' i') ν.1 (μ.2 k' i') Ad k' i'
    rw [mx_up2_n _ _ _ rfl hne, up3_n _ _ hne, ctg_A _ _ _ _ _ (Or.inr (Or.inr (Or.inr (Or.inr rfl)))) (fun e => absurd e (by decide)) (fun e => absurd e (by decide)) (fun e => absurd e (by decide)) (fun h3 e j hj => by have := hok k' i' j h3 e; omega)]
theorem wld_ord {D : va_G} {E : Nat → ClassId} {A : Nat → Prop} {μ : MP} {ν : NC} {a : AS} {Ad : Nat → Nat → Nat} {H : Heap} {q q1 q2 : Nat} {number sells price size : Int32} (hok : nwOrdOk μ ν) (hq : A q) (hq1 : A q1) (hq2 : A q2)
    (h : wld D E A (zS μ ν a Ad) [(q, .inr (7, [.int number, .int sells, .ref q1, .ref q2, .int 0, .int 0, .int 0, .int 0])), (q1, .inr (4, [.int price, .int size, .int 0, .int 0])), (q2, .inr (4, [.int 0, .int 0, .int 0, .int 0]))] H) :
    wld D E A (zS (nwOrd μ ν number sells price size).1 (nwOrd μ ν number sells price size).2 a (up2 (up2 (up2 Ad 21 (2 * ν.2 20) q1) 21 (2 * ν.2 20 + 1) q2) 20 (ν.2 20) q)) [] H := by
  obtain ⟨h21, hrf, hx⟩ := hok
  have h1 := wld_adopt (σ' := zS (up2 μ.1 21 (2 * ν.2 20) (bF price size), μ.2) (ν.1, up1 ν.2 21 (2 * ν.2 20 + 1)) a (up2 Ad 21 (2 * ν.2 20) q1)) (ex' := [(q, .inr (7, [.int number, .int sells, .ref q1, .ref q2, .int 0, .int 0, .int 0, .int 0])), (q2, .inr (4, [.int 0, .int 0, .int 0, .int 0]))]) (k := 21) (i := 2 * ν.2 20) (n := 1) h rfl h21.symm (by decide) rfl rfl (fun j => rfl)
    (by
      show (Sum.inr (4, fvs (mx (up2 μ.1 21 (2 * ν.2 20) (bF price size)) a 21 (2 * ν.2 20)) ν.1 (μ.2 21 (2 * ν.2 20)) _ 21 (2 * ν.2 20)) : va_E) = _
      rw [mx_lo _ _ (show Nat.ble 21 39 = true from rfl), up2_s]; rfl)
    (fun k' i' hl => by
      have hl1 : i' < ν.2 k' := hl.1
      have hne : ¬ (k' = 21 ∧ i' = 2 * ν.2 20) := fun e => by rw [e.1, e.2, h21] at hl1; omega
      show ctg E (mx (up2 μ.1 21 (2 * ν.2 20) (bF price size)) a k' i') ν.1 (μ.2 k' i') (up2 Ad 21 (2 * ν.2 20) q1) k' i' = ctg E (mx μ.1 a k' i') ν.1 (μ.2 k' i') Ad k' i'
      rw [mx_up2_n _ _ _ rfl hne, ctg_A _ _ _ _ _ (Or.inr (Or.inr (Or.inr (Or.inl rfl)))) (fun e => absurd e (by decide)) (fun e => absurd e (by decide)) (fun _ e => by rw [e] at hl1; omega) (fun _ e => by have := eK_lit k' i'; omega)])
    hq1 [0, 2] rfl rfl (fun j h => by simp at h; omega)
  have h2 := wld_adopt (σ' := zS (up2 (up2 μ.1 21 (2 * ν.2 20) (bF price size)) 21 (2 * ν.2 20 + 1) (bF 0 0), μ.2) (ν.1, up1 (up1 ν.2 21 (2 * ν.2 20 + 1)) 21 (2 * ν.2 20 + 1 + 1)) a (up2 (up2 Ad 21 (2 * ν.2 20) q1) 21 (2 * ν.2 20 + 1) q2)) (ex' := [(q, .inr (7, [.int number, .int sells, .ref q1, .ref q2, .int 0, .int 0, .int 0, .int 0]))]) (k := 21) (i := 2 * ν.2 20 + 1) (n := 1) h1 rfl (up1_s ν.2 21 (2 * ν.2 20 + 1)).symm (by decide) rfl rfl (fun j => rfl)
    (by
      show (Sum.inr (4, fvs (mx (up2 (up2 μ.1 21 (2 * ν.2 20) (bF price size)) 21 (2 * ν.2 20 + 1) (bF 0 0)) a 21 (2 * ν.2 20 + 1)) ν.1 (μ.2 21 (2 * ν.2 20 + 1)) _ 21 (2 * ν.2 20 + 1)) : va_E) = _
      rw [mx_lo _ _ (show Nat.ble 21 39 = true from rfl), up2_s]; rfl)
    (fun k' i' hl => by
      have hl1 : i' < up1 ν.2 21 (2 * ν.2 20 + 1) k' := hl.1
      have hne : ¬ (k' = 21 ∧ i' = 2 * ν.2 20 + 1) := fun e => by rw [e.1, e.2, up1_s] at hl1; omega
      show ctg E (mx (up2 (up2 μ.1 21 (2 * ν.2 20) (bF price size)) 21 (2 * ν.2 20 + 1) (bF 0 0)) a k' i') ν.1 (μ.2 k' i') (up2 (up2 Ad 21 (2 * ν.2 20) q1) 21 (2 * ν.2 20 + 1) q2) k' i' = ctg E (mx (up2 μ.1 21 (2 * ν.2 20) (bF price size)) a k' i') ν.1 (μ.2 k' i') (up2 Ad 21 (2 * ν.2 20) q1) k' i'
      rw [mx_up2_n _ _ _ rfl hne, ctg_A _ _ _ _ _ (Or.inr (Or.inr (Or.inr (Or.inl rfl)))) (fun e => absurd e (by decide)) (fun e => absurd e (by decide)) (fun _ e => by rw [e, up1_n _ _ (by decide)] at hl1; omega) (fun _ e => by have := eK_lit k' i'; omega)])
    hq2 [0] rfl rfl (fun j h => by simp at h; omega)
  refine wld_chg 3 16 (wld_adopt (σ' := zS (up2 (up2 (up2 μ.1 21 (2 * ν.2 20) (bF price size)) 21 (2 * ν.2 20 + 1) (bF 0 0)) 20 (ν.2 20) (oF number sells), μ.2) (ν.1, up1 (up1 (up1 ν.2 21 (2 * ν.2 20 + 1)) 21 (2 * ν.2 20 + 1 + 1)) 20 (ν.2 20 + 1)) a (up2 (up2 (up2 Ad 21 (2 * ν.2 20) q1) 21 (2 * ν.2 20 + 1) q2) 20 (ν.2 20) q)) (ex' := []) (k := 20) (i := ν.2 20) (n := 0) h2 rfl (by show ν.2 20 = up1 (up1 ν.2 21 (2 * ν.2 20 + 1)) 21 (2 * ν.2 20 + 1 + 1) 20; rw [up1_n _ _ (by decide), up1_n _ _ (by decide)]) (by decide) rfl rfl (fun j => rfl) ?_ (fun k' i' hl => ?_) hq [] rfl rfl (fun j h => by simp at h))
  · have e1 : mx (up2 (up2 (up2 μ.1 21 (2 * ν.2 20) (bF price size)) 21 (2 * ν.2 20 + 1) (bF 0 0)) 20 (ν.2 20) (oF number sells)) a 20 (ν.2 20) = oF number sells := by rw [mx_lo _ _ (show Nat.ble 20 39 = true from rfl), up2_s]
    show (Sum.inr (7, fvs (mx (up2 (up2 (up2 μ.1 21 (2 * ν.2 20) (bF price size)) 21 (2 * ν.2 20 + 1) (bF 0 0)) 20 (ν.2 20) (oF number sells)) a 20 (ν.2 20)) ν.1 (μ.2 20 (ν.2 20)) (up2 (up2 (up2 Ad 21 (2 * ν.2 20) q1) 21 (2 * ν.2 20 + 1) q2) 20 (ν.2 20) q) 20 (ν.2 20)) : va_E) = _
    rw [e1]
    show (Sum.inr (7, [Value.int number, .int sells, .ref (up2 (up2 (up2 Ad 21 (2 * ν.2 20) q1) 21 (2 * ν.2 20 + 1) q2) 20 (ν.2 20) q 21 (2 * ν.2 20)), .ref (up2 (up2 (up2 Ad 21 (2 * ν.2 20) q1) 21 (2 * ν.2 20 + 1) q2) 20 (ν.2 20) q 21 (2 * ν.2 20 + 1)), .int 0, .int 0, .int 0, .int 0]) : va_E) = _
    rw [up2_n _ _ (by omega), up2_n _ _ (by omega), up2_s, up2_n _ _ (by omega), up2_s]
  · have hl1 : i' < up1 (up1 ν.2 21 (2 * ν.2 20 + 1)) 21 (2 * ν.2 20 + 1 + 1) k' := hl.1
    have hne : ¬ (k' = 20 ∧ i' = ν.2 20) := fun e => by rw [e.1, e.2, up1_n _ _ (by decide), up1_n _ _ (by decide)] at hl1; omega
    show ctg E (mx (up2 (up2 (up2 μ.1 21 (2 * ν.2 20) (bF price size)) 21 (2 * ν.2 20 + 1) (bF 0 0)) 20 (ν.2 20) (oF number sells)) a k' i') ν.1 (μ.2 k' i') (up2 (up2 (up2 Ad 21 (2 * ν.2 20) q1) 21 (2 * ν.2 20 + 1) q2) 20 (ν.2 20) q) k' i' = ctg E (mx (up2 (up2 μ.1 21 (2 * ν.2 20) (bF price size)) 21 (2 * ν.2 20 + 1) (bF 0 0)) a k' i') ν.1 (μ.2 k' i') (up2 (up2 Ad 21 (2 * ν.2 20) q1) 21 (2 * ν.2 20 + 1) q2) k' i'
    rw [mx_up2_n _ _ _ rfl hne, ctg_A _ _ _ _ _ (Or.inr (Or.inr (Or.inl rfl))) (fun e => absurd e (by decide)) (fun _ e => by rw [e] at hl1 ⊢; rw [up1_n _ _ (by decide), up1_n _ _ (by decide)] at hl1; have := hx i' hl1; omega) (fun e => absurd e (by decide)) (fun h3 e j hj => by have := hrf k' i' j h3 e; omega)]
theorem kp_ord {ν : NC} {Ad : Nat → Nat → Nat} (h : ν.2 21 = 2 * ν.2 20) (q1 q2 q : Nat) : kp ν Ad (up2 (up2 (up2 Ad 21 (2 * ν.2 20) q1) 21 (2 * ν.2 20 + 1) q2) 20 (ν.2 20) q) := kp_trans (kp_trans (kp_new (k := 21) (by omega) (by omega)) (mn_rfl ν) (kp_new (k := 21) (by omega) (by omega))) (mn_rfl ν) (kp_new (k := 20) (by omega) (Nat.le_refl _))
section AdO
variable {p : Program} {l : Launch} {e : Env} {R : Room} {s : State} {m : MethodId} {args : Array Value} {below : List Frame} {meth : Method} {c : Code} {D : va_G} {E : Nat → ClassId} {A : Nat → Prop} {cc : ByteArray} {nL : Nat} {own : String} {Q : State → Prop}
variable {μ : MP} {ν : NC} {a : AS} {Ad : Nat → Nat → Nat} {σ : RS} {ex : va_W} {cells slots pc : Nat} {lv : List (Nat × Value)} {rest : List Value}
theorem g_adO {q q1 q2 : Nat} {number sells price size : Int32} (hok : nwOrdOk μ ν) (hq : A q) (hq1 : A q1) (hq2 : A q2) (kk : G p l e R s m args below meth c D E A nL Q (zS (nwOrd μ ν number sells price size).1 (nwOrd μ ν number sells price size).2 a (up2 (up2 (up2 Ad 21 (2 * ν.2 20) q1) 21 (2 * ν.2 20 + 1) q2) 20 (ν.2 20) q)) [] cells slots pc lv rest) : G p l e R s m args below meth c D E A nL Q (zS μ ν a Ad) [(q, .inr (7, [.int number, .int sells, .ref q1, .ref q2, .int 0, .int 0, .int 0, .int 0])), (q1, .inr (4, [.int price, .int size, .int 0, .int 0])), (q2, .inr (4, [.int 0, .int 0, .int 0, .int 0]))] cells slots pc lv rest := fun H locs ls hw hs hl => kk H locs ls (wld_ord hok hq hq1 hq2 hw) hs hl
theorem g_adX {q i : Nat} {venue size day price : Int32} (hok : rfO μ ν 23) (hq : A q) (kk : G p l e R s m args below meth c D E A nL Q (zS (nwExe μ ν i venue size day price).1 (nwExe μ ν i venue size day price).2 a (up2 Ad 23 (ν.2 23) q)) [] cells slots pc lv rest) : G p l e R s m args below meth c D E A nL Q (zS μ ν a Ad) [(q, .inr (5, [.ref (Ad 20 i), .int venue, .int size, .int day, .int price, .int 0, .int 0, .int 0, .int 0]))] cells slots pc lv rest := fun H locs ls hw hs hl => kk H locs ls (wld_exe hok hq hw) hs hl
end AdO
