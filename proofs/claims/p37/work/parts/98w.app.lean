/-! Application messages. -/
/-- a report -/
theorem SI_rep {n : Nat → Nat} {fl rem l0 l1 : Nat} {a : AS} {sort x y : Int32} {o : Nat} (hn : sm8 n ≤ 512) (hO : n 4 ≤ 40) (h : SI n fl rem l0 (l1 + if laN a = 0 then 5 else 4) a) : SI n fl rem l0 l1 (gRep a sort o x y) ∧ laN (gRep a sort o x y) = 1 := by
  have hv := h.1
  have hon : a 3 1 ≠ nI 0 → a 0 2 ≠ nI 0 := fun h => (hv.2.2 1 (by decide)).2.2.2.2.2.2.2.2.1 h
  have key : ∀ (G : List Nat) (S : Nat), a 4 1 = nI S → S + 1 ≤ 8190 → tn (a 20 0) < 65536 → lgN a 0 ≤ 8191 → laN (gRep a sort o x y) = 1 ∧ VH fl (gRep a sort o x y) G ≤ VH fl a G + (if laN a = 0 then 5 else 4) := fun G S e4 hS hc h1 => by
    have x1 := (VH_send1 (fl := fl) (G := G) (kd := nI 8) (o1 := sort) (o2 := nI o) (o3 := x) (o4 := y) e4 hS hc h1 hon (nn01 (hv.2.2 1 (by decide)).2.2.2.2.2.2.1) (nn01 hv.2.1)).1 (by decide)
    refine ⟨x1.1, ?_⟩
    have := x1.2
    unfold gRep
    by_cases c : laN a = 0
    · rw [if_pos c] at this ⊢; exact this
    · rw [if_neg c] at this ⊢
      split at this <;> omega
  have hr := SI_room h hn hO
  refine ⟨?_, ?_⟩
  · refine SI_snd (by decide) hn hO ⟨by decide, by decide, fun h => by omega, fun _ => by decide⟩ (by decide) h (fun gG S e4 hS hc h1 hp => ?_)
    obtain ⟨p1, p2, p3, p4⟩ := hp
    have x1 := (key (gG 1) S e4 hS hc h1).2
    have x2 := VT_send1 (fl := fl) (G := gG 0) (kd := nI 8) (o1 := sort) (o2 := nI o) (o3 := x) (o4 := y) e4 hS hc
    rw [tnI (by omega), if_neg (by omega)] at x2
    have x3 := (VS_send (fl := fl) (kd := nI 8) (o1 := sort) (o2 := nI o) (o3 := x) (o4 := y) (show 1 < 2 by decide) e4 hS h1).1 rfl
    unfold gRep at x1
    exact ⟨by omega, by omega, by rw [x3.1]; exact p3, by rw [x3.2]; exact p4⟩
  · obtain ⟨⟨S, e4, hS⟩, -⟩ := hv.2.2 1 (by decide)
    have h1 := (hr 1 (by decide)).1
    have h0 := (hr 0 (by decide))
    unfold lgN at h1
    rw [e4, tnI (by omega)] at h1
    exact (key [] S e4 (by omega) (by omega) (by omega)).1
/-- the trader's order, cancel, replace -/
theorem SI_app0 {n : Nat → Nat} {l0 l1 k : Nat} {a : AS} {o1 o2 o3 o4 : Int32} (hn : sm8 n ≤ 512) (hO : n 4 ≤ 40) (hk : 5 ≤ k ∧ k ≤ 7) (hA : VA a + 1 ≤ bA n) (h : SI n 0 0 (l0 + 1) (l1 + 5) a) : SI n 0 0 l0 l1 (gSends a 0 (nI k) o1 o2 o3 o4) := by
  refine SI_snd (by decide) hn hO ⟨by omega, by omega, fun h => by omega, fun h => by omega⟩ (by omega) h (fun gG S e4 hS hc h1 hp => ?_)
  obtain ⟨p1, p2, p3, p4⟩ := hp
  have x1 := VH_send0 (fl := 0) (G := gG 1) (kd := nI k) (o1 := o1) (o2 := o2) (o3 := o3) (o4 := o4) e4 hS hc h1
  rw [tnI (by omega), if_pos hk.1] at x1
  have x2 := (VT_send0 (fl := 0) (G := gG 0) (kd := nI k) (o1 := o1) (o2 := o2) (o3 := o3) (o4 := o4) e4 hS hc h1).1
  have hlg : lgN a 0 = S := by unfold lgN; rw [e4, tnI (by omega)]
  have x3 := (VS_send (fl := 0) (kd := nI k) (o1 := o1) (o2 := o2) (o3 := o3) (o4 := o4) (show 0 < 2 by decide) e4 hS (by omega)).2.2 rfl (by rw [tnI (by omega)]; exact hk.1) rfl
  exact ⟨by omega, by omega, by rw [x3.1]; exact p3, by rw [x3.2]; exact hA⟩
/-! counts that change at one place -/
theorem cntN_congr {p p' : Nat → Bool} : ∀ n, (∀ i, i < n → p' i = p i) → cntN p' n = cntN p n
  | 0, _ => rfl
  | n + 1, h => by
    show cntN p' n + (if p' n = true then 1 else 0) = cntN p n + (if p n = true then 1 else 0)
    rw [cntN_congr n (fun i hi => h i (by omega)), h n (by omega)]
theorem cntN_one {p p' : Nat → Bool} {x : Nat} : ∀ n, (∀ i, i < n → i ≠ x → p' i = p i) → cntN p' n ≤ cntN p n + 1
  | 0, _ => Nat.zero_le _
  | n + 1, h => by
    show cntN p' n + (if p' n = true then 1 else 0) ≤ cntN p n + (if p n = true then 1 else 0) + 1
    by_cases c : n = x
    · have := cntN_congr (p := p) (p' := p') n (fun i hi => h i (by omega) (by omega))
      split <;> split <;> omega
    · have := cntN_one (p := p) (p' := p') (x := x) n (fun i hi => h i (by omega))
      rw [h n (by omega) c]
      omega
theorem SI_req {n : Nat → Nat} {l0 l1 k o : Nat} {a : AS} {x y : Int32} (hn : sm8 n ≤ 512) (hO : n 4 ≤ 40) (hk : 5 ≤ k ∧ k ≤ 7) (hA : VA a + 1 ≤ bA n) (h : SI n 0 0 (l0 + 1) (l1 + 5) a) : SI n 0 0 l0 l1 (gReq a o (nI k) x y) := by
  unfold gReq
  refine SI_app0 hn hO hk hA (SI_mk (fun k hk => by simp (disch := omega) only [up2, up1_n]) ?_ ?_ ?_ h)
  · rw [up2_n _ _ (by omega), up2_n _ _ (by omega)]
  · rw [up2_n _ _ (by omega), up2_n _ _ (by omega)]
  · exact Nat.le_refl _
theorem SI_order {n : Nat → Nat} {l0 l1 k : Nat} {a : AS} {x1 x2 x3 : Int32} (hn : sm8 n ≤ 512) (hO : n 4 ≤ 40) (h22 : a 0 22 = nI k) (hk : k < 40) (hA : VA a + 1 ≤ bA n) (h : SI n 0 0 (l0 + 1) (l1 + 9) a) : SI n 0 0 l0 l1 (gOrder a k x1 x2 x3) := by
  unfold gOrder
  refine SI_app0 hn hO ⟨by decide, by decide⟩ hA (SI_mk (l1 := l1 + 9) (fun k hk => by unfold gNewO; simp (disch := omega) only [up2, up1_n]) ?_ ?_ ?_ h)
  · unfold gNewO
    simp (disch := omega) only [up2_n]
  · unfold gNewO
    simp (disch := omega) only [up2_n]
  · have e1 : posN (gNewO a k x1 x2 x3) = posN a := rfl
    have e2 : unfN (gNewO a k x1 x2 x3) ≤ unfN a + 1 := by
      have e22 : gNewO a k x1 x2 x3 0 22 = nI (k + 1) := up2_s _ _ _ _
      unfold unfN
      rw [e22, h22, tnI (by omega), tnI (by omega)]
      have := cntN_congr (p := isU a) (p' := isU (gNewO a k x1 x2 x3)) k (fun i hi => by
        unfold isU gNewO lft
        simp (disch := omega) only [up2_n])
      show cntN (isU (gNewO a k x1 x2 x3)) k + _ ≤ _
      split <;> omega
    omega
theorem sub3 (x y z q : Int32) : x - (y - q) - (z + q) = x - y - z := by
  rw [← Int32.toBitVec_inj]
  simp only [Int32.toBitVec_sub, Int32.toBitVec_add]
  bv_omega
theorem SI_bust {n : Nat → Nat} {l0 l1 e : Nat} {a : AS} (hn : sm8 n ≤ 512) (hO : n 4 ≤ 40) (h : SI n 0 0 l0 (l1 + 5) a) : SI n 0 0 l0 l1 (gBust a e) := by
  unfold gBust
  generalize tn (a 36 e) = o
  have h1 : SI n 0 0 l0 (l1 + 5) (gBust0 a e o) := by
    refine SI_mk (fun k hk => by unfold gBust0; simp (disch := omega) only [up2, up1_n]) ?_ ?_ ?_ h
    · unfold gBust0; simp (disch := omega) only [up2_n]
    · unfold gBust0; simp (disch := omega) only [up2_n]
    · have e1 : posN (gBust0 a e o) = posN a := rfl
      have e0 : gBust0 a e o 0 22 = a 0 22 := by unfold gBust0; simp (disch := omega) only [up2_n]
      have e2 : unfN (gBust0 a e o) = unfN a := by
        unfold unfN
        rw [e0]
        refine cntN_congr _ (fun i _ => ?_)
        have e26 : gBust0 a e o 26 (40 + i) = a 26 (40 + i) := rfl
        have e24 : gBust0 a e o 24 (40 + i) = a 24 (40 + i) := rfl
        have : lft (gBust0 a e o) (40 + i) = lft a (40 + i) := by
          unfold lft
          rw [e26]
          by_cases c : i = o
          · subst c
            have e27 : gBust0 a e i 27 (40 + i) = a 27 (40 + i) - a 39 e := by unfold gBust0; rw [up2_n _ _ (by omega), up2_s]
            have e28 : gBust0 a e i 28 (40 + i) = a 28 (40 + i) + a 39 e := by unfold gBust0; rw [up2_s]
            rw [e27, e28, sub3]
          · have e27 : gBust0 a e o 27 (40 + i) = a 27 (40 + i) := by unfold gBust0; simp (disch := omega) only [up2_n]
            have e28 : gBust0 a e o 28 (40 + i) = a 28 (40 + i) := by unfold gBust0; simp (disch := omega) only [up2_n]
            rw [e27, e28]
        unfold isU
        rw [this, e24]
      omega
  refine (SI_rep hn hO (SI_less (Nat.le_refl _) ?_ h1)).1
  split <;> omega
theorem SI_corr {n : Nat → Nat} {l0 l1 e : Nat} {a : AS} {x : Int32} (hn : sm8 n ≤ 512) (hO : n 4 ≤ 40) (h : SI n 0 0 l0 (l1 + 5) a) : SI n 0 0 l0 l1 (gCorr a e x) := by
  unfold gCorr
  have h1 : SI n 0 0 l0 (l1 + 5) (up2 (up2 a 0 0 (nI 0)) 41 (100 + e) x) := by
    refine SI_mk (fun k hk => by simp (disch := omega) only [up2, up1_n]) ?_ ?_ ?_ h
    · simp (disch := omega) only [up2_n]
    · simp (disch := omega) only [up2_n]
    · exact Nat.le_refl _
  refine (SI_rep hn hO (SI_less (Nat.le_refl _) ?_ h1)).1
  split <;> omega
/-- a quote: one left to pay -/
theorem SI_quo0 {n : Nat → Nat} {l0 l1 v d : Nat} {a : AS} {x y : Int32} (h : SI n 0 0 l0 (l1 + 5) a) : SI n 0 0 l0 (l1 + 1) (gQuo0 a v d x y) := by
  refine SI_mk (fun k hk => by unfold gQuo0; simp (disch := omega) only [up2, up1_n]) ?_ ?_ ?_ h
  · unfold gQuo0; simp (disch := omega) only [up2_n]
  · unfold gQuo0; simp (disch := omega) only [up2_n]
  · have e2 : unfN (gQuo0 a v d x y) = unfN a := rfl
    have e1 : posN (gQuo0 a v d x y) ≤ posN a + 1 := by
      unfold posN
      refine cntN_one (x := 2 * v + d) 6 (fun i _ hi => ?_)
      unfold isP gQuo0
      rw [up2_n _ _ (by omega), up2_n _ _ (by omega), up2_n _ _ (by omega)]
    omega
