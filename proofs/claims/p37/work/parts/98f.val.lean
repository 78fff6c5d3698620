/-! What is counted of a state, as numbers; what a send does to it. -/
def isA (k : Nat) : Bool := decide (5 ≤ k)
def isT (k : Nat) : Bool := decide (k = 2)
def isG (c : Nat) : Bool := decide (c % 2 = 1)
def gqN (a : AS) (s : Nat) (G : List Nat) : Nat := cntL isG (QL a s) + cntL (fun g => decide (tn (a 7 s) < g)) G
def etaN (a : AS) (s : Nat) : Nat := if a 0 2 ≠ nI 0 ∧ tn (a 7 s) = 0 then 1 else 0
def cntN (p : Nat → Bool) : Nat → Nat
  | 0 => 0
  | n + 1 => cntN p n + (if p n = true then 1 else 0)
/-- whether an order isn't full at the house -/
def isU (a : AS) (o : Nat) : Bool := decide (a 24 (40 + o) = nI 0 ∨ ¬ lft a (40 + o) ≤ nI 0)
def unfN (a : AS) : Nat := cntN (isU a) (tn (a 0 22))
def isP (a : AS) (q : Nat) : Bool := decide (¬ a 34 q ≤ nI 0)
def posN (a : AS) : Nat := cntN (isP a) 6
def laN (a : AS) : Nat := if lgN a 1 ≠ 0 ∧ 5 ≤ kF a 1 (lgN a 1) then 1 else 0
def phX (fl u o1 o0 dH eH dT q0 la v : Nat) : Nat := if fl = 2 then (if o1 ≠ 0 ∧ dH = 0 then (if v = 1 then 3 else own 0 eH) + tst 0 dT + 1 else phs u o1 o0 dH eH dT q0 la + 5) else phs u o1 o0 dH eH dT q0 la
def quN (a : AS) (k s : Nat) : Nat := tn (a 0 1) - tn (a k s)
def lateN (a : AS) (s : Nat) : Nat := if tn (a 8 s) < tn (a 0 1) then 1 else 0
def phN (fl : Nat) (a : AS) : Nat := phX fl (tn (a 0 2)) (tn (a 3 1)) (tn (a 3 0)) (quN a 10 1) (quN a 9 1) (quN a 10 0) (tn (a 20 0)) (laN a) (lateN a 1)
/-- the house's log -/
def VHl (a : AS) : Nat := 2 * apF (kF a 1) (lgN a 1) + 2 * grF (kF a 1) (lgN a 1) + lgN a 1
/-- what is pending of the trader's log -/
def VHp (a : AS) : Nat := 5 * pnd isA (kF a 0) (tn (a 5 1)) (lgN a 0) + pnd isT (kF a 0) (tn (a 5 1)) (lgN a 0)
def VH (fl : Nat) (a : AS) (G : List Nat) : Nat := VHl a + VHp a + 4 * (unfN a + posN a) + (gqN a 1 G + etaN a 1) + phN fl a
def VT (fl : Nat) (a : AS) (G : List Nat) : Nat := 10 * lgN a 0 + min (quN a 9 0) 10 + 10 * (if fl = 1 ∨ quN a 10 0 < 15 then 1 else 0) + 10 * (if fl = 2 ∨ quN a 10 1 < 15 then 1 else 0) + 10 * pnd isT (kF a 1) (tn (a 5 0)) (lgN a 1) + 10 * (gqN a 0 G + etaN a 0) + 10 * (if fl = 1 then lateN a 0 else 0)
def VS (fl : Nat) (a : AS) : Nat := srF (kF a 0) (lgN a 0) + (if (fl = 1 ∨ fl = 3 ∨ fl = 4) ∧ (lgN a 0 = 0 ∨ 5 ≤ kF a 0 (lgN a 0)) then 1 else 0)
def VA (a : AS) : Nat := apF (kF a 0) (lgN a 0)
theorem snd_lg {a : AS} {s S : Nat} {kd o1 o2 o3 o4 : Int32} (e : a 4 s = nI S) (hS : S ≤ 8190) : lgN (gSends a s kd o1 o2 o3 o4) s = S + 1 ∧ lgN a s = S := by
  unfold lgN
  rw [snd_4 e (by omega), tnI (by omega), e, tnI (by omega)]
  exact ⟨rfl, rfl⟩
theorem snd_lgo {a : AS} {s t : Nat} {kd o1 o2 o3 o4 : Int32} (h : t ≠ s) : lgN (gSends a s kd o1 o2 o3 o4) t = lgN a t := by
  unfold lgN
  rw [gSends_4o _ _ _ _ _ _ h]
theorem snd_runs {a : AS} {s S : Nat} {kd o1 o2 o3 o4 : Int32} (hs : s < 2) (e : a 4 s = nI S) (hS : S + 1 ≤ 8190) :
    apF (kF (gSends a s kd o1 o2 o3 o4) s) (S + 1) = apF (kF a s) S + (if 5 ≤ tn kd then 1 else 0) ∧
    grF (kF (gSends a s kd o1 o2 o3 o4) s) (S + 1) = grF (kF a s) S + (if 5 ≤ tn kd ∧ (S = 0 ∨ kF a s S < 5) then 1 else 0) ∧
    srF (kF (gSends a s kd o1 o2 o3 o4) s) (S + 1) = srF (kF a s) S + (if tn kd < 5 ∧ (S = 0 ∨ 5 ≤ kF a s S) then 1 else 0) ∧
    (∀ p E, pnd p (kF (gSends a s kd o1 o2 o3 o4) s) E (S + 1) = pnd p (kF a s) E S + (if E ≤ S + 1 ∧ p (tn kd) = true then 1 else 0)) ∧
    kF (gSends a s kd o1 o2 o3 o4) s (S + 1) = tn kd := by
  have hk : ∀ n, 1 ≤ n → n ≤ S → kF (gSends a s kd o1 o2 o3 o4) s n = kF a s n := fun n h1 h2 => by
    rw [snd_kF hs hs e (by omega) (by omega) h1, if_neg (by omega)]
  have hn : kF (gSends a s kd o1 o2 o3 o4) s (S + 1) = tn kd := by rw [snd_kF hs hs e (by omega) (by omega) (by omega), if_pos ⟨rfl, rfl⟩]
  obtain ⟨c1, c2, c3⟩ := apF_congr S hk
  have hS0 : S = 0 ∨ kF (gSends a s kd o1 o2 o3 o4) s S = kF a s S := by
    rcases Nat.eq_zero_or_pos S with h | h
    · exact Or.inl h
    · exact Or.inr (hk S h (Nat.le_refl _))
  refine ⟨?_, ?_, ?_, fun p E => ?_, hn⟩
  · show apF _ S + (if 5 ≤ kF (gSends a s kd o1 o2 o3 o4) s (S + 1) then 1 else 0) = _
    rw [c1, hn]
  · show grF _ S + (if 5 ≤ kF (gSends a s kd o1 o2 o3 o4) s (S + 1) ∧ (S = 0 ∨ kF (gSends a s kd o1 o2 o3 o4) s S < 5) then 1 else 0) = _
    rw [c3, hn]
    rcases hS0 with h | h
    · subst h; simp
    · rw [h]
  · show srF _ S + (if kF (gSends a s kd o1 o2 o3 o4) s (S + 1) < 5 ∧ (S = 0 ∨ 5 ≤ kF (gSends a s kd o1 o2 o3 o4) s S) then 1 else 0) = _
    rw [c2, hn]
    rcases hS0 with h | h
    · subst h; simp
    · rw [h]
  · show pnd p _ E S + (if E ≤ S + 1 ∧ p (kF (gSends a s kd o1 o2 o3 o4) s (S + 1)) = true then 1 else 0) = _
    rw [pnd_congr S hk, hn]
theorem snd_runo {a : AS} {s t S St : Nat} {kd o1 o2 o3 o4 : Int32} (hs : s < 2) (ht : t < 2) (hst : t ≠ s) (e : a 4 s = nI S) (hS : S + 1 ≤ 8190) (hSt : St ≤ 8191) :
    apF (kF (gSends a s kd o1 o2 o3 o4) t) St = apF (kF a t) St ∧ grF (kF (gSends a s kd o1 o2 o3 o4) t) St = grF (kF a t) St ∧ srF (kF (gSends a s kd o1 o2 o3 o4) t) St = srF (kF a t) St ∧ (∀ p E, pnd p (kF (gSends a s kd o1 o2 o3 o4) t) E St = pnd p (kF a t) E St) ∧ ∀ n, 1 ≤ n → n ≤ St → kF (gSends a s kd o1 o2 o3 o4) t n = kF a t n := by
  have hk : ∀ n, 1 ≤ n → n ≤ St → kF (gSends a s kd o1 o2 o3 o4) t n = kF a t n := fun n h1 h2 => by
    rw [snd_kF hs ht e (by omega) (by omega) h1, if_neg (fun h => hst h.1)]
  obtain ⟨c1, c2, c3⟩ := apF_congr St hk
  exact ⟨c1, c3, c2, fun p E => pnd_congr St hk, hk⟩
/-- what a send leaves as it was -/
theorem snd_same {a : AS} {s S : Nat} {kd o1 o2 o3 o4 : Int32} (hs : s < 2) (e : a 4 s = nI S) (hS : S + 1 ≤ 8190) (hc : tn (a 20 (1 - s)) < 65536) (t : Nat) (ht : t < 2) (G : List Nat) : gqN (gSends a s kd o1 o2 o3 o4) t G = gqN a t G ∧ etaN (gSends a s kd o1 o2 o3 o4) t = etaN a t ∧ unfN (gSends a s kd o1 o2 o3 o4) = unfN a ∧ posN (gSends a s kd o1 o2 o3 o4) = posN a ∧ quN (gSends a s kd o1 o2 o3 o4) 10 t = quN a 10 t ∧ lateN (gSends a s kd o1 o2 o3 o4) t = lateN a t := by
  have ek : ∀ k, k = 5 ∨ k = 7 ∨ k = 8 ∨ k = 18 ∨ k = 3 ∨ k = 10 ∨ k = 24 ∨ k = 34 ∨ k = 0 ∨ k = 26 ∨ k = 27 ∨ k = 28 → gSends a s kd o1 o2 o3 o4 k = a k := fun k hk => gSends_r _ _ _ _ _ _ _ _ (by omega) (by omega) (by omega) (by omega) (by omega)
  obtain ⟨q1, q2⟩ := snd_QL (kd := kd) (o1 := o1) (o2 := o2) (o3 := o3) (o4 := o4) hs e hS hc
  have hG : cntL isG (QL (gSends a s kd o1 o2 o3 o4) t) = cntL isG (QL a t) := by
    by_cases c : t = s
    · rw [c, q2]
    · have : t = 1 - s := by omega
      rw [this, q1]
      by_cases c2 : a 0 2 = nI 0
      · rw [if_pos c2]
      · rw [if_neg c2, cntL_app]
        show _ + ((if isG (2 * (8192 * (S + 1) + 0)) = true then 1 else 0) + 0) = _
        have : isG (2 * (8192 * (S + 1) + 0)) = false := by
          unfold isG
          exact decide_eq_false (by omega)
        rw [this]
        rfl
  refine ⟨?_, ?_, ?_, ?_, ?_, ?_⟩
  · unfold gqN
    rw [hG, ek 7 (by omega)]
  · unfold etaN
    rw [ek 7 (by omega), ek 0 (by omega)]
  · unfold unfN isU lft
    rw [ek 24 (by omega), ek 0 (by omega), ek 26 (by omega), ek 27 (by omega), ek 28 (by omega)]
  · unfold posN isP
    rw [ek 34 (by omega)]
  · unfold quN
    rw [ek 10 (by omega), ek 0 (by omega)]
  · unfold lateN
    rw [ek 8 (by omega), ek 0 (by omega)]
/-- the house sends: what its phase does -/
theorem phX_send {fl u o1 o0 dH eH eH' dT q0 q0' la la' v : Nat} (he : eH' ≤ eH) : (o1 ≠ 0 → phX fl u o1 o0 dH eH' dT q0' la' v ≤ phX fl u o1 o0 dH eH dT q0 la v) ∧ (u = 0 → o1 = 0 → phX fl u o1 o0 dH eH' dT q0' la' v = phX fl u o1 o0 dH eH dT q0 la v) ∧ (u ≠ 0 → o1 = 0 → phX fl u o1 o0 dH eH' dT q0' la' v + q0 + (if la ≠ 0 then 1 else 2) = phX fl u o1 o0 dH eH dT q0 la v + q0' + (if la' ≠ 0 then 1 else 2)) := by
  have h1 := own_e (d := dH) he
  have h2 := own_e (d := 0) he
  refine ⟨fun h => ?_, fun hu h => ?_, fun hu h => ?_⟩
  · unfold phX phs
    rw [if_pos h, if_pos h]
    split
    · split
      · split <;> omega
      · omega
    · omega
  · unfold phX phs
    simp only [if_neg (show ¬ o1 ≠ 0 from fun h' => h' h), if_neg (show ¬ (o1 ≠ 0 ∧ dH = 0) from fun h' => h'.1 h), if_neg (show ¬ u ≠ 0 from fun h' => h' hu)]
  · unfold phX phs
    simp only [if_neg (show ¬ o1 ≠ 0 from fun h' => h' h), if_neg (show ¬ (o1 ≠ 0 ∧ dH = 0) from fun h' => h'.1 h), if_pos hu]
    split <;> omega
/-- the trader sends -/
theorem VH_send0 {fl S : Nat} {a : AS} {G : List Nat} {kd o1 o2 o3 o4 : Int32} (e : a 4 0 = nI S) (hS : S + 1 ≤ 8190) (hc : tn (a 20 1) < 65536) (h1 : lgN a 1 ≤ 8191) : VH fl (gSends a 0 kd o1 o2 o3 o4) G ≤ VH fl a G + (if 5 ≤ tn kd then 5 else if tn kd = 2 then 1 else 0) := by
  obtain ⟨r1, r2, r3, r4, r5⟩ := snd_runs (kd := kd) (o1 := o1) (o2 := o2) (o3 := o3) (o4 := o4) (show 0 < 2 by decide) e hS
  obtain ⟨s1, s2, s3, s4, s5⟩ := snd_runo (t := 1) (St := lgN a 1) (kd := kd) (o1 := o1) (o2 := o2) (o3 := o3) (o4 := o4) (show 0 < 2 by decide) (by decide) (by decide) e hS h1
  obtain ⟨l1, l2⟩ := snd_lg (kd := kd) (o1 := o1) (o2 := o2) (o3 := o3) (o4 := o4) e (by omega)
  obtain ⟨g1, g2, g3, g4, g5, g6⟩ := snd_same (kd := kd) (o1 := o1) (o2 := o2) (o3 := o3) (o4 := o4) (show 0 < 2 by decide) e hS hc 1 (by decide) G
  obtain ⟨-, -, -, -, g7, -⟩ := snd_same (kd := kd) (o1 := o1) (o2 := o2) (o3 := o3) (o4 := o4) (show 0 < 2 by decide) e hS hc 0 (by decide) G
  have lo : lgN (gSends a 0 kd o1 o2 o3 o4) 1 = lgN a 1 := snd_lgo (by decide)
  have e5 : gSends a 0 kd o1 o2 o3 o4 5 = a 5 := gSends_r _ _ _ _ _ _ _ _ (by decide) (by decide) (by decide) (by decide) (by decide)
  have e3 : gSends a 0 kd o1 o2 o3 o4 3 = a 3 := gSends_r _ _ _ _ _ _ _ _ (by decide) (by decide) (by decide) (by decide) (by decide)
  have e0 : gSends a 0 kd o1 o2 o3 o4 0 = a 0 := gSends_r _ _ _ _ _ _ _ _ (by decide) (by decide) (by decide) (by decide) (by decide)
  have e20 : gSends a 0 kd o1 o2 o3 o4 20 0 = a 20 0 := by
    have := (snd_QL (kd := kd) (o1 := o1) (o2 := o2) (o3 := o3) (o4 := o4) (show 0 < 2 by decide) e hS hc).2
    unfold gSends
    split
    · exact gKeep_k _ _ _ _ _ _ _ _ _ (by decide) (by decide)
    · unfold gGoes
      rw [up2_n _ _ (by decide), up2_n _ _ (by decide), up2_n _ _ (by omega)]
      exact gKeep_k _ _ _ _ _ _ _ _ _ (by decide) (by decide)
  have e9 : quN (gSends a 0 kd o1 o2 o3 o4) 9 1 = quN a 9 1 := by
    unfold quN
    rw [snd_9, if_neg (fun h => absurd h.1 (by decide)), e0]
  have ela : laN (gSends a 0 kd o1 o2 o3 o4) = laN a := by
    unfold laN
    rw [lo]
    by_cases c : lgN a 1 = 0
    · rw [if_neg (fun h => h.1 c), if_neg (fun h => h.1 c)]
    · rw [s5 (lgN a 1) (by omega) (Nat.le_refl _)]
  have eph : phN fl (gSends a 0 kd o1 o2 o3 o4) = phN fl a := by
    unfold phN
    rw [e0, e3, g5, e9, g7, e20, ela, g6]
  unfold VH VHl VHp
  rw [lo, l1, l2, s1, s2, e5, r4, r4, g1, g2, g3, g4, eph]
  have hA : isA (tn kd) = true ↔ 5 ≤ tn kd := by unfold isA; exact decide_eq_true_iff
  have hT : isT (tn kd) = true ↔ tn kd = 2 := by unfold isT; exact decide_eq_true_iff
  simp only [hA, hT]
  by_cases c1 : 5 ≤ tn kd
  · rw [if_pos c1, if_neg (show ¬ (tn (a 5 1) ≤ S + 1 ∧ tn kd = 2) by omega)]
    split <;> omega
  · rw [if_neg c1, if_neg (show ¬ (tn (a 5 1) ≤ S + 1 ∧ 5 ≤ tn kd) from fun h => c1 h.2)]
    by_cases c2 : tn kd = 2
    · rw [if_pos c2]
      split <;> omega
    · rw [if_neg c2, if_neg (fun h => c2 h.2)]
      omega
/-- the house sends -/
theorem VH_send1 {fl S : Nat} {a : AS} {G : List Nat} {kd o1 o2 o3 o4 : Int32} (e : a 4 1 = nI S) (hS : S + 1 ≤ 8190) (hc : tn (a 20 0) < 65536) (h1 : lgN a 0 ≤ 8191) (hon : a 3 1 ≠ nI 0 → a 0 2 ≠ nI 0) (h3 : ¬ a 3 1 < 0) (h0 : ¬ a 0 2 < 0) :
    (5 ≤ tn kd → laN (gSends a 1 kd o1 o2 o3 o4) = 1 ∧ VH fl (gSends a 1 kd o1 o2 o3 o4) G ≤ VH fl a G + (if laN a = 0 then 5 else if a 3 1 = nI 0 ∧ a 0 2 ≠ nI 0 then 4 else 3)) ∧
    (tn kd < 5 → a 3 1 ≠ nI 0 → VH fl (gSends a 1 kd o1 o2 o3 o4) G ≤ VH fl a G + 1) ∧
    (tn kd < 5 → a 3 1 = nI 0 → a 0 2 ≠ nI 0 → VH fl (gSends a 1 kd o1 o2 o3 o4) G ≤ VH fl a G + (if laN a ≠ 0 then 3 else 2)) := by
  obtain ⟨r1, r2, r3, r4, r5⟩ := snd_runs (kd := kd) (o1 := o1) (o2 := o2) (o3 := o3) (o4 := o4) (show 1 < 2 by decide) e hS
  obtain ⟨s1, s2, s3, s4, s5⟩ := snd_runo (t := 0) (St := lgN a 0) (kd := kd) (o1 := o1) (o2 := o2) (o3 := o3) (o4 := o4) (show 1 < 2 by decide) (by decide) (by decide) e hS h1
  obtain ⟨l1, l2⟩ := snd_lg (kd := kd) (o1 := o1) (o2 := o2) (o3 := o3) (o4 := o4) e (by omega)
  obtain ⟨g1, g2, g3, g4, g5, g6⟩ := snd_same (kd := kd) (o1 := o1) (o2 := o2) (o3 := o3) (o4 := o4) (show 1 < 2 by decide) e hS hc 1 (by decide) G
  obtain ⟨-, -, -, -, g7, -⟩ := snd_same (kd := kd) (o1 := o1) (o2 := o2) (o3 := o3) (o4 := o4) (show 1 < 2 by decide) e hS hc 0 (by decide) G
  have lo : lgN (gSends a 1 kd o1 o2 o3 o4) 0 = lgN a 0 := snd_lgo (by decide)
  have e5 : gSends a 1 kd o1 o2 o3 o4 5 = a 5 := gSends_r _ _ _ _ _ _ _ _ (by decide) (by decide) (by decide) (by decide) (by decide)
  have e3 : gSends a 1 kd o1 o2 o3 o4 3 = a 3 := gSends_r _ _ _ _ _ _ _ _ (by decide) (by decide) (by decide) (by decide) (by decide)
  have e0 : gSends a 1 kd o1 o2 o3 o4 0 = a 0 := gSends_r _ _ _ _ _ _ _ _ (by decide) (by decide) (by decide) (by decide) (by decide)
  have e20 : tn (gSends a 1 kd o1 o2 o3 o4 20 0) = tn (a 20 0) + (if a 0 2 = nI 0 then 0 else 1) := by
    have h1 := QL_len (gSends a 1 kd o1 o2 o3 o4) 0
    have h2 := QL_len a 0
    rw [(snd_QL (kd := kd) (o1 := o1) (o2 := o2) (o3 := o3) (o4 := o4) (show 1 < 2 by decide) e hS hc).1] at h1
    by_cases c : a 0 2 = nI 0
    · rw [if_pos c] at h1 ⊢
      have h1' : (QL a 0).length = _ := h1
      omega
    · rw [if_neg c] at h1 ⊢
      have h1' : (QL a 0 ++ [2 * (8192 * (S + 1) + 0)]).length = _ := h1
      rw [List.length_append, List.length_cons, List.length_nil] at h1'
      omega
  have e9 : quN (gSends a 1 kd o1 o2 o3 o4) 9 1 ≤ quN a 9 1 := by
    unfold quN
    rw [snd_9, e0]
    split <;> omega
  have ela : laN (gSends a 1 kd o1 o2 o3 o4) = if 5 ≤ tn kd then 1 else 0 := by
    unfold laN
    rw [l1, r5]
    by_cases c : 5 ≤ tn kd
    · rw [if_pos ⟨by omega, c⟩, if_pos c]
    · rw [if_neg (fun h => c h.2), if_neg c]
  have hla : (S = 0 ∨ kF a 1 S < 5) ↔ laN a = 0 := by
    unfold laN
    rw [l2]
    by_cases c : S ≠ 0 ∧ 5 ≤ kF a 1 S
    · rw [if_pos c]; omega
    · rw [if_neg c]; omega
  have hu : tn (a 0 2) = 0 ↔ a 0 2 = nI 0 := ⟨fun h => by rw [← nIs h0, h], fun h => by rw [h]; rfl⟩
  have h31 : tn (a 3 1) = 0 ↔ a 3 1 = nI 0 := ⟨fun h => by rw [← nIs h3, h], fun h => by rw [h]; rfl⟩
  have eVp : VHp (gSends a 1 kd o1 o2 o3 o4) = VHp a := by
    unfold VHp
    rw [lo, s4, s4, e5]
  have eVl : VHl (gSends a 1 kd o1 o2 o3 o4) = VHl a + (if 5 ≤ tn kd then 3 + 2 * (if laN a = 0 then 1 else 0) else 1) := by
    unfold VHl
    rw [l1, l2, r1, r2]
    simp only [hla]
    by_cases c : 5 ≤ tn kd
    · rw [if_pos c, if_pos c]
      by_cases c2 : laN a = 0
      · rw [if_pos ⟨c, c2⟩, if_pos c2]; omega
      · rw [if_neg (fun h => c2 h.2), if_neg c2]; omega
    · rw [if_neg c, if_neg c, if_neg (fun h => c h.1)]; omega
  have hph := phX_send (fl := fl) (u := tn (a 0 2)) (o1 := tn (a 3 1)) (o0 := tn (a 3 0)) (dH := quN a 10 1) (dT := quN a 10 0) (q0 := tn (a 20 0)) (q0' := tn (gSends a 1 kd o1 o2 o3 o4 20 0)) (la := laN a) (la' := laN (gSends a 1 kd o1 o2 o3 o4)) (v := lateN a 1) e9
  have eph : phN fl (gSends a 1 kd o1 o2 o3 o4) = phX fl (tn (a 0 2)) (tn (a 3 1)) (tn (a 3 0)) (quN a 10 1) (quN (gSends a 1 kd o1 o2 o3 o4) 9 1) (quN a 10 0) (tn (gSends a 1 kd o1 o2 o3 o4 20 0)) (laN (gSends a 1 kd o1 o2 o3 o4)) (lateN a 1) := by
    unfold phN
    rw [e0, e3, g5, g7, g6]
  have eph0 : phN fl a = phX fl (tn (a 0 2)) (tn (a 3 1)) (tn (a 3 0)) (quN a 10 1) (quN a 9 1) (quN a 10 0) (tn (a 20 0)) (laN a) (lateN a 1) := rfl
  rw [← eph, ← eph0, hu, h31] at hph
  obtain ⟨p1, p2, p3⟩ := hph
  have hV : VH fl (gSends a 1 kd o1 o2 o3 o4) G + phN fl a = VH fl a G + (if 5 ≤ tn kd then 3 + 2 * (if laN a = 0 then 1 else 0) else 1) + phN fl (gSends a 1 kd o1 o2 o3 o4) := by
    unfold VH
    rw [eVl, eVp, g1, g2, g3, g4]
    omega
  have hne : tn (a 3 1) ≠ 0 ↔ a 3 1 ≠ nI 0 := not_congr h31
  have hnu : tn (a 0 2) ≠ 0 ↔ a 0 2 ≠ nI 0 := not_congr hu
  rw [ela, e20] at p3
  refine ⟨fun c => ⟨by rw [ela, if_pos c], ?_⟩, fun c hh => ?_, fun c hh hup => ?_⟩
  · rw [if_pos c] at hV p3
    by_cases c1 : a 3 1 = nI 0
    · by_cases c2 : a 0 2 = nI 0
      · have := p2 c2 c1
        by_cases c3 : laN a = 0
        · rw [if_pos c3] at hV ⊢; omega
        · rw [if_neg c3] at hV ⊢
          rw [if_neg (fun h => h.2 c2)]
          omega
      · have := p3 (hnu.mpr c2) c1
        rw [if_neg c2, if_pos (show (1 : Nat) ≠ 0 by decide)] at this
        by_cases c3 : laN a = 0
        · rw [if_pos c3] at hV ⊢
          rw [if_neg (fun h => h c3)] at this
          omega
        · rw [if_neg c3] at hV ⊢
          rw [if_pos ⟨c1, c2⟩]
          rw [if_pos c3] at this
          omega
    · have := p1 (hne.mpr c1)
      by_cases c3 : laN a = 0
      · rw [if_pos c3] at hV ⊢; omega
      · rw [if_neg c3] at hV ⊢
        rw [if_neg (fun h => c1 h.1)]
        omega
  · rw [if_neg (by omega)] at hV
    have := p1 (hne.mpr hh)
    omega
  · rw [if_neg (by omega)] at hV
    have := p3 (hnu.mpr hup) hh
    rw [if_neg hup, if_neg (show ¬ 5 ≤ tn kd by omega), if_neg (show ¬ (0 : Nat) ≠ 0 by decide)] at this
    by_cases c3 : laN a ≠ 0
    · rw [if_pos c3] at this ⊢; omega
    · rw [if_neg c3] at this ⊢; omega
/-- the trader's count -/
theorem VT_send0 {fl S : Nat} {a : AS} {G : List Nat} {kd o1 o2 o3 o4 : Int32} (e : a 4 0 = nI S) (hS : S + 1 ≤ 8190) (hc : tn (a 20 1) < 65536) (h1 : lgN a 1 ≤ 8191) : VT fl (gSends a 0 kd o1 o2 o3 o4) G ≤ VT fl a G + 10 ∧ (a 0 2 ≠ nI 0 → 10 ≤ quN a 9 0 → VT fl (gSends a 0 kd o1 o2 o3 o4) G ≤ VT fl a G) := by
  obtain ⟨s1, s2, s3, s4, s5⟩ := snd_runo (t := 1) (St := lgN a 1) (kd := kd) (o1 := o1) (o2 := o2) (o3 := o3) (o4 := o4) (show 0 < 2 by decide) (by decide) (by decide) e hS h1
  obtain ⟨l1, l2⟩ := snd_lg (kd := kd) (o1 := o1) (o2 := o2) (o3 := o3) (o4 := o4) e (by omega)
  obtain ⟨g1, g2, g3, g4, g5, g6⟩ := snd_same (kd := kd) (o1 := o1) (o2 := o2) (o3 := o3) (o4 := o4) (show 0 < 2 by decide) e hS hc 0 (by decide) G
  obtain ⟨-, -, -, -, g7, -⟩ := snd_same (kd := kd) (o1 := o1) (o2 := o2) (o3 := o3) (o4 := o4) (show 0 < 2 by decide) e hS hc 1 (by decide) G
  have lo : lgN (gSends a 0 kd o1 o2 o3 o4) 1 = lgN a 1 := snd_lgo (by decide)
  have e5 : gSends a 0 kd o1 o2 o3 o4 5 = a 5 := gSends_r _ _ _ _ _ _ _ _ (by decide) (by decide) (by decide) (by decide) (by decide)
  have e0 : gSends a 0 kd o1 o2 o3 o4 0 = a 0 := gSends_r _ _ _ _ _ _ _ _ (by decide) (by decide) (by decide) (by decide) (by decide)
  have e9 : quN (gSends a 0 kd o1 o2 o3 o4) 9 0 = if a 0 2 = nI 0 then quN a 9 0 else 0 := by
    unfold quN
    rw [snd_9, e0]
    by_cases c : a 0 2 = nI 0
    · rw [if_pos c, if_neg (fun h => h.2 c)]
    · rw [if_neg c, if_pos ⟨rfl, c⟩]; omega
  unfold VT
  rw [lo, l1, l2, s4, e5, g1, g2, g5, g6, g7, e9]
  refine ⟨?_, fun hu h9 => ?_⟩
  · by_cases c : a 0 2 = nI 0
    · rw [if_pos c]; omega
    · rw [if_neg c]; omega
  · rw [if_neg hu]; omega
theorem VT_send1 {fl S : Nat} {a : AS} {G : List Nat} {kd o1 o2 o3 o4 : Int32} (e : a 4 1 = nI S) (hS : S + 1 ≤ 8190) (hc : tn (a 20 0) < 65536) : VT fl (gSends a 1 kd o1 o2 o3 o4) G ≤ VT fl a G + (if tn kd = 2 then 10 else 0) := by
  obtain ⟨r1, r2, r3, r4, r5⟩ := snd_runs (kd := kd) (o1 := o1) (o2 := o2) (o3 := o3) (o4 := o4) (show 1 < 2 by decide) e hS
  obtain ⟨l1, l2⟩ := snd_lg (kd := kd) (o1 := o1) (o2 := o2) (o3 := o3) (o4 := o4) e (by omega)
  obtain ⟨g1, g2, g3, g4, g5, g6⟩ := snd_same (kd := kd) (o1 := o1) (o2 := o2) (o3 := o3) (o4 := o4) (show 1 < 2 by decide) e hS hc 0 (by decide) G
  obtain ⟨-, -, -, -, g7, -⟩ := snd_same (kd := kd) (o1 := o1) (o2 := o2) (o3 := o3) (o4 := o4) (show 1 < 2 by decide) e hS hc 1 (by decide) G
  have lo : lgN (gSends a 1 kd o1 o2 o3 o4) 0 = lgN a 0 := snd_lgo (by decide)
  have e5 : gSends a 1 kd o1 o2 o3 o4 5 = a 5 := gSends_r _ _ _ _ _ _ _ _ (by decide) (by decide) (by decide) (by decide) (by decide)
  have e0 : gSends a 1 kd o1 o2 o3 o4 0 = a 0 := gSends_r _ _ _ _ _ _ _ _ (by decide) (by decide) (by decide) (by decide) (by decide)
  have e9 : quN (gSends a 1 kd o1 o2 o3 o4) 9 0 = quN a 9 0 := by
    unfold quN
    rw [snd_9, e0, if_neg (fun h => absurd h.1 (by decide))]
  have hT : isT (tn kd) = true ↔ tn kd = 2 := by unfold isT; exact decide_eq_true_iff
  unfold VT
  rw [lo, l1, l2, r4, e5, g1, g2, g5, g6, g7, e9]
  simp only [hT]
  by_cases c : tn kd = 2
  · rw [if_pos c]
    by_cases c2 : tn (a 5 0) ≤ S + 1 ∧ tn kd = 2
    · rw [if_pos c2]; omega
    · rw [if_neg c2]; omega
  · rw [if_neg c, if_neg (show ¬ (tn (a 5 0) ≤ S + 1 ∧ tn kd = 2) from fun h => c h.2)]; omega
theorem VS_send {fl s S : Nat} {a : AS} {kd o1 o2 o3 o4 : Int32} (hs : s < 2) (e : a 4 s = nI S) (hS : S + 1 ≤ 8190) (h1 : lgN a 0 ≤ 8191) : (s = 1 → VS fl (gSends a s kd o1 o2 o3 o4) = VS fl a ∧ VA (gSends a s kd o1 o2 o3 o4) = VA a) ∧ (s = 0 → tn kd < 5 → fl = 1 ∨ fl = 3 ∨ fl = 4 → VS fl (gSends a s kd o1 o2 o3 o4) ≤ VS fl a ∧ VA (gSends a s kd o1 o2 o3 o4) = VA a) ∧ (s = 0 → 5 ≤ tn kd → fl = 0 → VS fl (gSends a s kd o1 o2 o3 o4) = VS fl a ∧ VA (gSends a s kd o1 o2 o3 o4) = VA a + 1) := by
  refine ⟨fun h => ?_, fun h hk hf => ?_, fun h hk hf => ?_⟩
  · subst h
    obtain ⟨s1, s2, s3, s4, s5⟩ := snd_runo (t := 0) (St := lgN a 0) (kd := kd) (o1 := o1) (o2 := o2) (o3 := o3) (o4 := o4) (show 1 < 2 by decide) (by decide) (by decide) e hS h1
    have lo : lgN (gSends a 1 kd o1 o2 o3 o4) 0 = lgN a 0 := snd_lgo (by decide)
    unfold VS VA
    rw [lo, s1, s3]
    refine ⟨?_, rfl⟩
    by_cases c : lgN a 0 = 0
    · simp only [c, true_or]
    · rw [s5 _ (by omega) (Nat.le_refl _)]
  · subst h
    obtain ⟨r1, r2, r3, r4, r5⟩ := snd_runs (kd := kd) (o1 := o1) (o2 := o2) (o3 := o3) (o4 := o4) (show 0 < 2 by decide) e hS
    obtain ⟨l1, l2⟩ := snd_lg (kd := kd) (o1 := o1) (o2 := o2) (o3 := o3) (o4 := o4) e (by omega)
    unfold VS VA
    rw [l1, l2, r1, r3, r5, if_neg (show ¬ 5 ≤ tn kd by omega)]
    refine ⟨?_, rfl⟩
    rw [if_neg (show ¬ ((fl = 1 ∨ fl = 3 ∨ fl = 4) ∧ (S + 1 = 0 ∨ 5 ≤ tn kd)) by omega)]
    by_cases c : S = 0 ∨ 5 ≤ kF a 0 S
    · rw [if_pos ⟨hk, c⟩, if_pos ⟨hf, c⟩]; omega
    · rw [if_neg (fun h => c h.2)]; omega
  · subst h
    obtain ⟨r1, r2, r3, r4, r5⟩ := snd_runs (kd := kd) (o1 := o1) (o2 := o2) (o3 := o3) (o4 := o4) (show 0 < 2 by decide) e hS
    obtain ⟨l1, l2⟩ := snd_lg (kd := kd) (o1 := o1) (o2 := o2) (o3 := o3) (o4 := o4) e (by omega)
    unfold VS VA
    rw [l1, l2, r1, r3, if_pos hk, if_neg (show ¬ (tn kd < 5 ∧ (S = 0 ∨ 5 ≤ kF a 0 S)) by omega), if_neg (by omega), if_neg (by omega)]
    exact ⟨rfl, rfl⟩
