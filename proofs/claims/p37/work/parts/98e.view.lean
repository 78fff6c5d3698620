/-! What a send changes of what is counted. -/
def lgN (a : AS) (s : Nat) : Nat := tn (a 4 s)
theorem snd_4 {a : AS} {s S : Nat} {kd o1 o2 o3 o4 : Int32} (e : a 4 s = nI S) (hS : S < 2 ^ 30) : gSends a s kd o1 o2 o3 o4 4 s = nI (S + 1) := gSends_4 a s S kd o1 o2 o3 o4 e (by omega)
theorem snd_11 {a : AS} {s S : Nat} {kd o1 o2 o3 o4 : Int32} (e : a 4 s = nI S) (hS : S < 2 ^ 30) (i : Nat) : gSends a s kd o1 o2 o3 o4 11 i = if i = 8192 * s + (S + 1) then kd else a 11 i := by
  have h := (gKeep_rows a s S kd o1 o2 o3 o4 e (by omega)).2.1
  rw [gSends_q _ _ _ _ _ _ _ _ (by decide) (by decide) (by decide), h]
  by_cases c : i = 8192 * s + (S + 1)
  · rw [if_pos c, c, up1_s]
  · rw [if_neg c, up1_n _ _ c]
theorem snd_kF {a : AS} {s S t : Nat} {kd o1 o2 o3 o4 : Int32} (hs : s < 2) (ht : t < 2) (e : a 4 s = nI S) (hS : S ≤ 8190) {n : Nat} (hn : n ≤ 8191) (h1 : 1 ≤ n) : kF (gSends a s kd o1 o2 o3 o4) t n = if t = s ∧ n = S + 1 then tn kd else kF a t n := by
  unfold kF
  rw [snd_11 e (by omega)]
  by_cases c : t = s ∧ n = S + 1
  · rw [if_pos c, if_pos (by rw [c.1, c.2])]
  · rw [if_neg c, if_neg (by omega)]
theorem snd_QL {a : AS} {s S : Nat} {kd o1 o2 o3 o4 : Int32} (hs : s < 2) (e : a 4 s = nI S) (hS : S + 1 ≤ 8190) (hc : tn (a 20 (1 - s)) < 65536) : QL (gSends a s kd o1 o2 o3 o4) (1 - s) = (if a 0 2 = nI 0 then QL a (1 - s) else QL a (1 - s) ++ [2 * (8192 * (S + 1) + 0)]) ∧ QL (gSends a s kd o1 o2 o3 o4) s = QL a s := by
  have k : ∀ t, QL (gKeep a s kd o1 o2 o3 o4) t = QL a t := fun t => QL_congr (gKeep_k _ _ _ _ _ _ _ _ _ (by decide) (by decide)) (gKeep_k _ _ _ _ _ _ _ _ _ (by decide) (by decide)) (funext fun i => gKeep_k _ _ _ _ _ _ _ _ _ (by decide) (by decide))
  have hn : tn (a 4 s) = S := by rw [e, tnI (by omega)]
  unfold gSends
  by_cases c : a 0 2 = nI 0
  · rw [if_pos (show a 0 2 = 0 from c), if_pos c]
    exact ⟨k _, k _⟩
  · rw [if_neg (show ¬ a 0 2 = 0 from c), if_neg c, hn]
    have h20 : gKeep a s kd o1 o2 o3 o4 20 (1 - s) = a 20 (1 - s) := gKeep_k _ _ _ _ _ _ _ _ _ (by decide) (by decide)
    obtain ⟨g1, g2⟩ := QL_goes (a := gKeep a s kd o1 o2 o3 o4) (s := s) (n := S + 1) (f := 0) hs (by rw [h20]; exact hc) hS (by decide)
    exact ⟨by rw [g1, k], by rw [g2, k]⟩
theorem snd_9 {a : AS} {s : Nat} {kd o1 o2 o3 o4 : Int32} (t : Nat) : gSends a s kd o1 o2 o3 o4 9 t = if t = s ∧ ¬ a 0 2 = nI 0 then a 0 1 else a 9 t := by
  unfold gSends
  by_cases c : a 0 2 = nI 0
  · rw [if_pos (show a 0 2 = 0 from c), if_neg (fun h => h.2 c), gKeep_k _ _ _ _ _ _ _ _ _ (by decide) (by decide)]
  · rw [if_neg (show ¬ a 0 2 = 0 from c)]
    unfold gGoes
    by_cases ct : t = s
    · rw [if_pos ⟨ct, c⟩, ct, up2_s, gKeep_k _ _ _ _ _ _ _ _ _ (by decide) (by decide)]
    · rw [if_neg (fun h => ct h.1), up2_n _ _ (by omega), up2_n _ _ (by omega), up2_n _ _ (by omega), gKeep_k _ _ _ _ _ _ _ _ _ (by decide) (by decide)]
theorem live_en (S : Nat) : cEn (2 * (8192 * (S + 1) + 0)) = S + 1 ∧ cNx (2 * (8192 * (S + 1) + 0)) = S + 2 ∧ cEf (2 * (8192 * (S + 1) + 0)) = 0 := by
  have e1 : cEn (2 * (8192 * (S + 1) + 0)) = S + 1 := by unfold cEn; omega
  have e2 : cEf (2 * (8192 * (S + 1) + 0)) = 0 := by unfold cEf; omega
  exact ⟨e1, by rw [cNx_0 e2, e1], e2⟩
/-- what a side holds back -/
def hN (a : AS) (s n : Nat) : Nat := if n < 8192 then tn (a 18 (8192 * s + n)) else 0
/-- a side's RESENDs under way -/
def isR (a : AS) (Y : Nat) (c : Nat) : Bool := decide (cEf c = 0) && decide (kF a Y (cEn c) = 3)
def rsN (a : AS) (Y : Nat) : Nat := cntL (isR a Y) (QL a (1 - Y))
/-- one direction, in the reference's registers -/
def DI (VB nP nC ic : Nat) (a : AS) (Y : Nat) (L : List (List Nat)) (b tb : Nat) (G : List Nat) (z : Nat) : Prop :=
  DQ VB nP nC ic (QL a Y) (lgN a (1 - Y)) (tn (a 5 Y)) (tn (a 7 Y)) (tn (a 8 Y)) (tn (a 0 1)) (rsN a Y) L b tb ∧ DK (QL a Y) (lgN a (1 - Y)) (tn (a 5 Y)) (tn (a 7 Y)) (hN a Y) G z ∧ (a 3 Y = nI 0 → (∀ n, hN a Y n = 0) ∧ z = tn (a 5 Y))
theorem isR_snd {a : AS} {s S t : Nat} {kd o1 o2 o3 o4 : Int32} (hs : s < 2) (ht : t < 2) (e : a 4 s = nI S) (hS : S ≤ 8190) {c : Nat} (h1 : 1 ≤ cEn c) (h2 : cEn c ≤ 8191) (h3 : ¬ (t = s ∧ cEn c = S + 1)) : isR (gSends a s kd o1 o2 o3 o4) t c = isR a t c := by
  unfold isR
  rw [snd_kF hs ht e hS h2 h1, if_neg h3]
/-- the direction to the other side -/
theorem DI_sendX {VB nP nC ic : Nat} {a : AS} {s S : Nat} {L : List (List Nat)} {b tb : Nat} {G : List Nat} {z : Nat} {kd o1 o2 o3 o4 : Int32} (hs : s < 2) (e : a 4 s = nI S) (hS : S + 1 ≤ 8190) (hc : tn (a 20 (1 - s)) < 65536) (hup : a 0 2 = nI 0 → a 3 (1 - s) = nI 0 ∧ QL a (1 - s) = []) (hq : ∀ c, c ∈ QL a s → 1 ≤ cEn c ∧ cEn c ≤ 8191) (h : DI VB nP nC ic a (1 - s) L b tb G z) : ∃ L', DI VB nP nC ic (gSends a s kd o1 o2 o3 o4) (1 - s) L' b tb G z := by
  obtain ⟨hQ, hK, hO⟩ := h
  obtain ⟨q1, q2⟩ := snd_QL (kd := kd) (o1 := o1) (o2 := o2) (o3 := o3) (o4 := o4) hs e hS hc
  have es : 1 - (1 - s) = s := by omega
  have eS : lgN a s = S := by unfold lgN; rw [e, tnI (by omega)]
  have eS' : lgN (gSends a s kd o1 o2 o3 o4) s = S + 1 := by unfold lgN; rw [snd_4 e (by omega), tnI (by omega)]
  have er : rsN (gSends a s kd o1 o2 o3 o4) (1 - s) = rsN a (1 - s) := by
    unfold rsN
    rw [es, q2]
    exact cntL_congr (fun c hc => isR_snd hs (by omega) e (by omega) (hq c hc).1 (hq c hc).2 (by omega))
  have ek : ∀ k, k = 5 ∨ k = 7 ∨ k = 8 ∨ k = 18 ∨ k = 3 → gSends a s kd o1 o2 o3 o4 k = a k := fun k hk => gSends_r _ _ _ _ _ _ _ _ (by omega) (by omega) (by omega) (by omega) (by omega)
  have e01 : gSends a s kd o1 o2 o3 o4 0 1 = a 0 1 := gSends_k _ _ _ _ _ _ _ _ _ (by decide) (by decide) (by decide) (by decide) (by decide)
  have eh : ∀ n, hN (gSends a s kd o1 o2 o3 o4) (1 - s) n = hN a (1 - s) n := fun n => by unfold hN; rw [ek 18 (by omega)]
  rw [es, eS] at hQ hK
  obtain ⟨l1, l2, l3⟩ := live_en S
  unfold DI
  rw [es, eS', er, ek 5 (by omega), ek 7 (by omega), ek 8 (by omega), ek 3 (by omega), e01, q1]
  by_cases c : a 0 2 = nI 0
  · obtain ⟨u1, u2⟩ := hup c
    obtain ⟨o5, o6⟩ := hO u1
    rw [if_pos c, u2]
    rw [u2] at hQ hK
    refine ⟨L, ?_, DK_h eh ?_, fun h3 => ⟨fun n => (eh n).trans (o5 n), o6⟩⟩
    · obtain ⟨g1, g2, g3, g4, g5, g6, g7, g8, g9, g10⟩ := hQ
      exact ⟨g1, g2, sfx_mono (Nat.le_refl _) (Nat.le_succ _) g3, g4, fun c hc => by (cases hc), trivial, g7, g8, g9, g10⟩
    · obtain ⟨k1, k2, k3, k4, k5, k6, k7⟩ := hK
      exact ⟨k1, by omega, k3, k4, by omega, fun n hn => absurd (o5 n) hn, Or.inr (Or.inr (Or.inr (Or.inl o6.symm)))⟩
  · rw [if_neg c]
    exact ⟨psh L (2 * (8192 * (S + 1) + 0)), DQ_live l1 l2 (by omega) (DK_AE hK) hQ, DK_h eh (DK_live l1 hK), fun h3 => ⟨fun n => (eh n).trans ((hO h3).1 n), (hO h3).2⟩⟩
/-- the direction to the sender: but for a RESEND nothing changes -/
theorem rsN_snd {a : AS} {s S : Nat} {kd o1 o2 o3 o4 : Int32} (hs : s < 2) (e : a 4 s = nI S) (hS : S + 1 ≤ 8190) (hc : tn (a 20 (1 - s)) < 65536) (hq : ∀ c, c ∈ QL a (1 - s) → 1 ≤ cEn c ∧ cEn c ≤ S) : rsN (gSends a s kd o1 o2 o3 o4) s ≤ rsN a s + (if kd = nI 3 then 1 else 0) := by
  obtain ⟨q1, q2⟩ := snd_QL (kd := kd) (o1 := o1) (o2 := o2) (o3 := o3) (o4 := o4) hs e hS hc
  obtain ⟨l1, l2, l3⟩ := live_en S
  have h1 : cntL (isR (gSends a s kd o1 o2 o3 o4) s) (QL a (1 - s)) = cntL (isR a s) (QL a (1 - s)) := cntL_congr (fun c hc => by
    have := hq c hc
    exact isR_snd hs hs e (by omega) this.1 (by omega) (by omega))
  unfold rsN
  rw [q1]
  by_cases c : a 0 2 = nI 0
  · rw [if_pos c, h1]
    exact Nat.le_add_right _ _
  · rw [if_neg c, cntL_app, h1]
    refine Nat.add_le_add_left ?_ _
    show (if isR _ s (2 * (8192 * (S + 1) + 0)) = true then 1 else 0) + 0 ≤ _
    have hk : kF (gSends a s kd o1 o2 o3 o4) s (S + 1) = tn kd := by rw [snd_kF hs hs e (by omega) (by omega) (by omega), if_pos ⟨rfl, rfl⟩]
    have hi : isR (gSends a s kd o1 o2 o3 o4) s (2 * (8192 * (S + 1) + 0)) = decide (tn kd = 3) := by
      unfold isR
      rw [l1, l3, hk]
      simp
    rw [hi]
    by_cases c3 : kd = nI 3
    · rw [if_pos c3]
      split <;> omega
    · by_cases c4 : tn kd = 3
      · refine absurd ?_ c3
        have hneg : ¬ kd < 0 := fun h => by
          have h2 : kd.toInt < 0 := by rw [Int32.lt_iff_toInt_lt] at h; exact h
          have h3 : tn kd = 0 := by unfold tn Int32.toNatClampNeg; omega
          omega
        rw [← nIs hneg, c4]
      · rw [decide_eq_false c4]
        exact Nat.zero_le _
theorem DI_sendO {VB nP nC ic : Nat} {a : AS} {s S : Nat} {L : List (List Nat)} {b tb : Nat} {G : List Nat} {z : Nat} {kd o1 o2 o3 o4 : Int32} (hs : s < 2) (e : a 4 s = nI S) (hS : S + 1 ≤ 8190) (hc : tn (a 20 (1 - s)) < 65536) (hq : ∀ c, c ∈ QL a (1 - s) → 1 ≤ cEn c ∧ cEn c ≤ S) (hkd : kd ≠ nI 3) (h : DI VB nP nC ic a s L b tb G z) : DI VB nP nC ic (gSends a s kd o1 o2 o3 o4) s L b tb G z := by
  obtain ⟨hQ, hK, hO⟩ := h
  obtain ⟨q1, q2⟩ := snd_QL (kd := kd) (o1 := o1) (o2 := o2) (o3 := o3) (o4 := o4) hs e hS hc
  have er := rsN_snd (kd := kd) (o1 := o1) (o2 := o2) (o3 := o3) (o4 := o4) hs e hS hc hq
  rw [if_neg hkd] at er
  have ek : ∀ k, k = 5 ∨ k = 7 ∨ k = 8 ∨ k = 18 ∨ k = 3 → gSends a s kd o1 o2 o3 o4 k = a k := fun k hk => gSends_r _ _ _ _ _ _ _ _ (by omega) (by omega) (by omega) (by omega) (by omega)
  have e01 : gSends a s kd o1 o2 o3 o4 0 1 = a 0 1 := gSends_k _ _ _ _ _ _ _ _ _ (by decide) (by decide) (by decide) (by decide) (by decide)
  have e4 : lgN (gSends a s kd o1 o2 o3 o4) (1 - s) = lgN a (1 - s) := by unfold lgN; rw [gSends_4o _ _ _ _ _ _ (by omega)]
  have eh : ∀ n, hN (gSends a s kd o1 o2 o3 o4) s n = hN a s n := fun n => by unfold hN; rw [ek 18 (by omega)]
  unfold DI
  rw [e4, ek 5 (by omega), ek 7 (by omega), ek 8 (by omega), ek 3 (by omega), e01, q2]
  exact ⟨DQ_r er hQ, DK_h eh hK, fun h3 => ⟨fun n => (eh n).trans ((hO h3).1 n), (hO h3).2⟩⟩
/-- it asks -/
theorem DI_askO {VB nP nC ic : Nat} {a : AS} {s S : Nat} {L : List (List Nat)} {b tb : Nat} {G : List Nat} {z : Nat} {kd o1 o2 o3 o4 : Int32} (hs : s < 2) (e : a 4 s = nI S) (hS : S + 1 ≤ 8190) (hc : tn (a 20 (1 - s)) < 65536) (hq : ∀ c, c ∈ QL a (1 - s) → 1 ≤ cEn c ∧ cEn c ≤ S)
    (hE : tn (a 5 s) ≤ lgN a (1 - s)) (hT : tn (a 8 s) ≤ tn (a 0 1)) (hi : ic = 1) (hw : tn (a 7 s) ≠ tn (a 5 s) ∨ tn (a 8 s) + 5 ≤ tn (a 0 1)) (hh : ∀ l R, L = l :: R → ∀ c', c' ∈ l → tn (a 5 s) < cEn c') (hon : ¬ a 3 s = nI 0) (h : DI VB nP nC ic a s L b tb G z) : ∃ tb', DI VB nP nC ic (gSends (up2 (up2 a 7 s (a 5 s)) 8 s (a 0 1)) s (nI 3) o1 o2 o3 o4) s L 0 tb' G z := by
  obtain ⟨hQ, hK, hO⟩ := h
  obtain ⟨tb', hQ'⟩ := DQ_ask hT (by omega) (hw.elim Or.inl (fun w => Or.inr ⟨w, hi⟩)) hh hQ
  have hK' := DK_ask hE hK
  have e' : up2 (up2 a 7 s (a 5 s)) 8 s (a 0 1) 4 s = nI S := e
  obtain ⟨q1, q2⟩ := snd_QL (a := up2 (up2 a 7 s (a 5 s)) 8 s (a 0 1)) (kd := nI 3) (o1 := o1) (o2 := o2) (o3 := o3) (o4 := o4) hs e' hS hc
  have er := rsN_snd (a := up2 (up2 a 7 s (a 5 s)) 8 s (a 0 1)) (kd := nI 3) (o1 := o1) (o2 := o2) (o3 := o3) (o4 := o4) hs e' hS hc hq
  rw [if_pos rfl] at er
  have er' : rsN (gSends (up2 (up2 a 7 s (a 5 s)) 8 s (a 0 1)) s (nI 3) o1 o2 o3 o4) s ≤ rsN a s + 1 := er
  have ek : ∀ k, k = 5 ∨ k = 7 ∨ k = 8 ∨ k = 18 ∨ k = 3 → gSends (up2 (up2 a 7 s (a 5 s)) 8 s (a 0 1)) s (nI 3) o1 o2 o3 o4 k = up2 (up2 a 7 s (a 5 s)) 8 s (a 0 1) k := fun k hk => gSends_r _ _ _ _ _ _ _ _ (by omega) (by omega) (by omega) (by omega) (by omega)
  have e01 : gSends (up2 (up2 a 7 s (a 5 s)) 8 s (a 0 1)) s (nI 3) o1 o2 o3 o4 0 1 = a 0 1 := gSends_k _ _ _ _ _ _ _ _ _ (by decide) (by decide) (by decide) (by decide) (by decide)
  have e4 : lgN (gSends (up2 (up2 a 7 s (a 5 s)) 8 s (a 0 1)) s (nI 3) o1 o2 o3 o4) (1 - s) = lgN a (1 - s) := by unfold lgN; rw [gSends_4o _ _ _ _ _ _ (by omega)]; rfl
  have eh : ∀ n, hN (gSends (up2 (up2 a 7 s (a 5 s)) 8 s (a 0 1)) s (nI 3) o1 o2 o3 o4) s n = hN a s n := fun n => by unfold hN; rw [ek 18 (by omega)]; rfl
  have e5 : up2 (up2 a 7 s (a 5 s)) 8 s (a 0 1) 5 s = a 5 s := rfl
  have e7 : up2 (up2 a 7 s (a 5 s)) 8 s (a 0 1) 7 s = a 5 s := by rw [up2_n _ _ (by omega), up2_s]
  have e8 : up2 (up2 a 7 s (a 5 s)) 8 s (a 0 1) 8 s = a 0 1 := up2_s _ _ _ _
  refine ⟨tb', ?_⟩
  unfold DI
  rw [e4, ek 5 (by omega), ek 7 (by omega), ek 8 (by omega), ek 3 (by omega), e01, q2, e5, e7, e8]
  exact ⟨DQ_r er' hQ', DK_h eh hK', fun h3 => absurd h3 hon⟩
