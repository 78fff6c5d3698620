/-! The reference's state during a run: n counts the calls (0 pass, 1 come to the trader, 2 come to the house, 3 garble, 4 order, 5 cancel and replace, 6 quote, bust, correct, 7 connect); fl: the call under way (1, 2 come, 3 pass, 4 connect). -/
def bH (n : Nat → Nat) : Nat := 5 * (n 2 + n 3 + n 4 + n 5 + n 6 + n 7) + 4 * n 4
def bT (n : Nat → Nat) : Nat := 50 * (n 0 + n 1 + n 2 + n 3 + n 4 + n 5 + n 7) + 20
def bS (n : Nat → Nat) : Nat := n 0 + n 1 + n 7
def bA (n : Nat → Nat) : Nat := n 4 + n 5
def sm8 (n : Nat → Nat) : Nat := n 0 + n 1 + n 2 + n 3 + n 4 + n 5 + n 6 + n 7
/-- the longest answer that goes to a side -/
def vB (n : Nat → Nat) (Y : Nat) : Nat := if Y = 0 then (bH n + 2) / 3 else min (bA n + bS n) (2 * bA n + 1)
def icN (fl Y : Nat) : Nat := if fl = 1 + Y ∧ Y < 2 then 1 else if fl = 3 then 2 else 0
theorem bnd {n : Nat → Nat} {Y u tb lv : Nat} (hn : sm8 n ≤ 512) (hO : n 4 ≤ 40) (hY : Y < 2) (h0 : tb ≤ n 0) (h1 : tb ≤ n (1 + Y)) (hu : u ≤ tb + 2) (hl : lv ≤ if Y = 0 then bH n else 3000) : u * vB n Y + lv ≤ 64100 := by
  unfold sm8 at hn
  unfold vB
  rcases (show Y = 0 ∨ Y = 1 by omega) with rfl | rfl
  · rw [if_pos rfl] at hl ⊢
    refine finH (N := 512) (nP := n 0) (nT := n 1) (nO := n 4) (tb := tb) (P := bH n) (Nat.le_refl _) (by omega) hO ?_ h0 h1 (by omega) hl hu
    unfold bH
    omega
  · rw [if_neg (by decide)] at hl ⊢
    have := finT (nP := n 0) (nT := n 1) (nH := n 2) (nC := n 7) (nA := n 4 + n 5) (ap := bA n) (sr := bS n) (tb := tb) (u := u) (V := min (bA n + bS n) (2 * bA n + 1)) (lv := lv) (by omega) (Nat.le_refl _) (Nat.le_refl _) h0 h1 (by omega) (by omega) hl hu
    omega
/-- registers of the line -/
def svS (a : AS) (s : Nat) : Prop :=
  (∃ S : Nat, a 4 s = nI S ∧ S ≤ 8190) ∧ (∃ E : Nat, a 5 s = nI E ∧ E ≤ 8191) ∧ (∃ A : Nat, a 7 s = nI A ∧ A ≤ 8191) ∧
  (∀ k, k = 8 ∨ k = 9 ∨ k = 10 → ∃ v : Nat, a k s = nI v ∧ v ≤ tn (a 0 1)) ∧ (∃ h : Nat, a 19 s = nI h ∧ h < 65536) ∧ (∃ c : Nat, a 20 s = nI c ∧ c ≤ 65536) ∧ (a 3 s = nI 0 ∨ a 3 s = nI 1) ∧
  (a 0 2 = nI 0 → a 3 s = nI 0 ∧ a 20 s = nI 0 ∧ a 7 s = nI 0) ∧ (¬ a 3 s = nI 0 → a 0 2 ≠ nI 0) ∧
  (∀ n, 1 ≤ n → n ≤ tn (a 4 s) → ∃ kd : Nat, a 11 (8192 * s + n) = nI kd ∧ kd ≤ 8 ∧ kd ≠ 4 ∧ (s = 0 → kd ≤ 7) ∧ (s = 1 → kd ≤ 3 ∨ kd = 8)) ∧
  (∀ n, n < 8192 → ∃ v : Nat, a 18 (8192 * s + n) = nI v ∧ (v ≤ 1 ∨ 4 ≤ v) ∧ v ≤ 8193)
def sv (a : AS) : Prop := (∃ T : Nat, a 0 1 = nI T ∧ T ≤ 30000) ∧ (a 0 2 = nI 0 ∨ a 0 2 = nI 1) ∧ ∀ s, s < 2 → svS a s
/-- what is counted keeps its bounds -/
def pot (n : Nat → Nat) (fl rem l0 l1 : Nat) (a : AS) (gG : Nat → List Nat) : Prop := VH fl a (gG 1) + l1 ≤ bH n ∧ VT fl a (gG 0) + 10 * l0 + rem ≤ bT n ∧ VS fl a ≤ bS n ∧ VA a ≤ bA n
def SI (n : Nat → Nat) (fl rem l0 l1 : Nat) (a : AS) : Prop := sv a ∧ ∃ (gL : Nat → List (List Nat)) (gb gt : Nat → Nat) (gG : Nat → List Nat) (gz : Nat → Nat), (∀ Y, Y < 2 → DI (vB n Y) (n 0) (n (1 + Y)) (icN fl Y) a Y (gL Y) (gb Y) (gt Y) (gG Y) (gz Y)) ∧ pot n fl rem l0 l1 a gG
theorem pot_lg {n : Nat → Nat} {fl rem l0 l1 : Nat} {a : AS} {gG : Nat → List Nat} (hn : sm8 n ≤ 512) (hO : n 4 ≤ 40) (h : pot n fl rem l0 l1 a gG) : lgN a 0 + l0 ≤ 2600 ∧ lgN a 1 + l1 ≤ bH n ∧ bH n ≤ 2720 := by
  obtain ⟨h1, h2, h3, h4⟩ := h
  unfold VH VHl at h1
  unfold VT bT at h2
  unfold sm8 at hn
  unfold bH at *
  omega
theorem DI_len {VB nP nC ic : Nat} {a : AS} {Y : Nat} {L : List (List Nat)} {b tb : Nat} {G : List Nat} {z : Nat} (h : DI VB nP nC ic a Y L b tb G z) : tn (a 20 Y) ≤ L.length * VB + lgN a (1 - Y) ∧ L.length ≤ tb + 2 ∧ tb ≤ nP ∧ tb ≤ nC := by
  obtain ⟨⟨h1, h2, h3, h4, h5, h6, h7, h8, h9, h10⟩, -, -⟩ := h
  have := sfx_len h3
  rw [h1, QL_len] at this
  exact ⟨this, by omega, by omega, by omega⟩
theorem lvBd {n : Nat → Nat} {fl rem l0 l1 : Nat} {a : AS} {gG : Nat → List Nat} {Y : Nat} (hn : sm8 n ≤ 512) (hO : n 4 ≤ 40) (hY : Y < 2) (h : pot n fl rem l0 l1 a gG) : lgN a (1 - Y) ≤ if Y = 0 then bH n else 3000 := by
  obtain ⟨p1, p2, p3⟩ := pot_lg hn hO h
  rcases (show Y = 0 ∨ Y = 1 by omega) with rfl | rfl
  · rw [if_pos rfl]; show lgN a 1 ≤ _; omega
  · rw [if_neg (by decide)]; show lgN a 0 ≤ _; omega
/-- nothing passes the stores -/
theorem SI_room {n : Nat → Nat} {fl rem l0 l1 : Nat} {a : AS} (h : SI n fl rem l0 l1 a) (hn : sm8 n ≤ 512) (hO : n 4 ≤ 40) : ∀ s, s < 2 → lgN a s ≤ 3000 ∧ tn (a 20 s) ≤ 64100 := by
  obtain ⟨hv, gL, gb, gt, gG, gz, hD, hp⟩ := h
  intro s hs
  obtain ⟨p1, p2, p3⟩ := pot_lg hn hO hp
  obtain ⟨d1, d2, d3, d4⟩ := DI_len (hD s hs)
  have := bnd (Y := s) (u := (gL s).length) (tb := gt s) hn hO hs d3 d4 d2 (lvBd hn hO hs hp)
  refine ⟨?_, by omega⟩
  rcases (show s = 0 ∨ s = 1 by omega) with rfl | rfl <;> omega
theorem SI_roomS {n : Nat → Nat} {fl rem l0 l1 : Nat} {a : AS} (h : SI n fl rem l0 l1 a) (hn : sm8 n ≤ 512) (hO : n 4 ≤ 40) {s k : Nat} (hs : s < 2) (hk : k ≤ 1000) : roomS a s k := by
  have h1 := SI_room h hn hO
  obtain ⟨⟨S, e4, hS⟩, -⟩ := h.1.2.2 s hs
  obtain ⟨-, -, -, -, -, ⟨c, e20, hc⟩, -⟩ := h.1.2.2 (1 - s) (by omega)
  have r1 := (h1 s hs).1
  have r2 := (h1 (1 - s) (by omega)).2
  unfold lgN at r1
  rw [e4, tnI (by omega)] at r1
  rw [e20, tnI (by omega)] at r2
  exact ⟨S, c, e4, by omega, e20, by omega⟩
