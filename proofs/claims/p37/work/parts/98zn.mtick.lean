/-! Ticks, in what is kept; what is held at rest. -/
def rm3 (a : AS) : Prop := ∀ s, s < 2 → ∃ S : Nat, a 4 s = nI S ∧ S ≤ 3000
theorem SI_rm {n : Nat → Nat} {fl rem l0 l1 : Nat} {a : AS} (hn : sm8 n ≤ 512) (hO : n 4 ≤ 40) (h : SI n fl rem l0 l1 a) : rm3 a := fun s hs => by
  obtain ⟨S, e, _⟩ := (h.1.2.2 s hs).1
  have := (SI_room h hn hO s hs).1
  unfold lgN at this
  rw [e, tnI (by omega)] at this
  exact ⟨S, e, this⟩
theorem rm3_lg {a : AS} {s : Nat} (h : rm3 a) (hs : s < 2) : lgN a s ≤ 3000 := by
  obtain ⟨S, e, h1⟩ := h s hs
  unfold lgN
  rw [e, tnI (by omega)]
  exact h1
/-- at rest nothing is held at or below what is expected -/
def rst (a : AS) : Prop := ∀ s, s < 2 → ∀ i, i ≤ tn (a 5 s) → hN a s i = 0
theorem rst_c {a b : AS} (h18 : b 18 = a 18) (h5 : b 5 = a 5) (h : rst a) : rst b := fun s hs i hi => by
  rw [h5] at hi
  unfold hN
  rw [h18]
  exact h s hs i hi
theorem rst_down (a : AS) : rst (gDown a) := fun s hs i _ => by
  unfold hN
  split
  · rename_i hi
    rw [gDown_18 a s i hs hi]
    rfl
  · rfl
theorem rst_snd {a : AS} {s : Nat} {kd o1 o2 o3 o4 : Int32} (h : rst a) : rst (gSends a s kd o1 o2 o3 o4) :=
  rst_c (gSends_r _ _ _ _ _ _ _ 18 (by omega) (by omega) (by omega) (by omega) (by omega)) (gSends_r _ _ _ _ _ _ _ 5 (by omega) (by omega) (by omega) (by omega) (by omega)) h
theorem MI_down {K O E R : Nat} {a : AS} (h : MI K O E R a) : MI K O E R (gDown a) :=
  MI_line (fun k i hk => by rw [gDown_r a k (by omega) (by omega) (by omega) (by omega) (by omega) (by omega) (by omega)]) (fun i hi => by rw [gDown_00, if_neg (by omega)]) (fun o _ _ => by rw [gDown_r a 29 (by omega) (by omega) (by omega) (by omega) (by omega) (by omega) (by omega), gDown_r a 30 (by omega) (by omega) (by omega) (by omega) (by omega) (by omega) (by omega)]; exact ⟨rfl, rfl⟩) (fun s hs => by rw [gDown_r a 5 (by omega) (by omega) (by omega) (by omega) (by omega) (by omega) (by omega)]; exact Nat.le_refl _) h
theorem lgN_snd {a : AS} {s S : Nat} {kd o1 o2 o3 o4 : Int32} (hs : s < 2) (e : a 4 s = nI S) (hS : S ≤ 8190) : lgN (gSends a s kd o1 o2 o3 o4) 0 ≤ lgN a 0 + 1 := by
  rcases (show s = 0 ∨ s = 1 by omega) with rfl | rfl
  · obtain ⟨l1, l2⟩ := snd_lg (kd := kd) (o1 := o1) (o2 := o2) (o3 := o3) (o4 := o4) e hS
    omega
  · rw [snd_lgo (by decide)]
    omega
theorem MI_wt {K O E R s S : Nat} {a : AS} (hs : s < 2) (e : a 4 s = nI S) (hS : S + 2 ≤ 8190) (hl : lgN a 0 + 1 ≤ 8190) (hr : rst a) (h : MI K O E R a) : MI K O E R (gWt a s).1 ∧ rst (gWt a s).1 := by
  have st : ∀ (x : AS × Nat) (S' k : Nat), k ≤ 3 → x.1 4 s = nI S' → S' + 1 ≤ 8190 → lgN x.1 0 ≤ 8190 → MI K O E R x.1 → MI K O E R (gSends x.1 s (nI k) (nI 0) (nI 0) (nI 0) (nI 0)) := fun x S' k hk e' hS' hl' h' => MI_ses hs e' hS' hl' hk (by omega) h'
  have h1 : MI K O E R (gWt1 (a, 0) s).1 ∧ rst (gWt1 (a, 0) s).1 ∧ ∃ S', (gWt1 (a, 0) s).1 4 s = nI S' ∧ S' ≤ S + 1 ∧ lgN (gWt1 (a, 0) s).1 0 ≤ lgN a 0 + 1 := by
    unfold gWt1
    split
    · exact ⟨h, hr, S, e, by omega, Nat.le_succ _⟩
    · exact ⟨st (a, 0) S 1 (by omega) e (by omega) (by show lgN a 0 ≤ _; omega) h, rst_snd hr, S + 1, snd_4 e (by omega), by omega, lgN_snd hs e (by omega)⟩
  obtain ⟨m1, r1, S', e1, hS1, hl1⟩ := h1
  have h2 : MI K O E R (gWt2 (gWt1 (a, 0) s) s).1 ∧ rst (gWt2 (gWt1 (a, 0) s) s).1 := by
    unfold gWt2
    split
    · exact ⟨st (gWt1 (a, 0) s) S' 2 (by omega) e1 (by omega) (by omega) m1, rst_snd r1⟩
    · exact ⟨m1, r1⟩
  unfold gWt gWt3
  split
  · exact h2
  · exact ⟨MI_down h2.1, rst_down _⟩
theorem MI_tkL {n : Nat → Nat} {l0 l1 K O E R : Nat} (hn : sm8 n ≤ 512) (hO : n 4 ≤ 40) : ∀ (i rem : Nat) (a : AS) (c : Nat), SI n 3 (rem + i) l0 l1 a → qt a → tn (a 0 1) + i ≤ 30000 → rst a → MI K O E R a → MI K O E R (gTkL i a c).1 ∧ rst (gTkL i a c).1 := by
  intro i
  induction i with
  | zero => exact fun rem a c _ _ _ hr h => ⟨h, hr⟩
  | succ i ih =>
    intro rem a c hS hq hT hr h
    have hS' : SI n 3 ((rem + i) + 1) l0 l1 a := hS
    obtain ⟨t1, t2, t3⟩ := SI_tick hn hO hS' hq (by omega)
    obtain ⟨u0, u1, -⟩ := SI_tick1 hn hO hS' hq (by omega)
    have r0 := SI_rm hn hO u0
    have r1 := SI_rm hn hO u1
    have m0 : MI K O E R (gTk0 a) := MI_line (fun k i hk => up2_n _ _ (by omega)) (fun i hi => up2_n _ _ (by omega)) (fun o' h1 h2 => ⟨up2_n _ _ (by omega), up2_n _ _ (by omega)⟩) (fun s hs => by unfold gTk0; rw [up2_n _ _ (by omega)]; exact Nat.le_refl _) h
    have q0 : rst (gTk0 a) := rst_c (up2_k _ _ (by omega)) (up2_k _ _ (by omega)) hr
    have m1 : MI K O E R (gTk1 a).1 ∧ rst (gTk1 a).1 := by
      unfold gTk1
      split
      · exact ⟨m0, q0⟩
      · obtain ⟨S, e, hS1⟩ := r0 0 (by decide)
        exact MI_wt (by decide) e (by omega) (by have := rm3_lg r0 (show 0 < 2 by decide); omega) q0 m0
    have m2 : MI K O E R (gTk2 a).1 ∧ rst (gTk2 a).1 := by
      unfold gTk2
      split
      · exact m1
      · obtain ⟨S, e, hS1⟩ := r1 1 (by decide)
        exact MI_wt (by decide) e (by omega) (by have := rm3_lg r1 (show 0 < 2 by decide); omega) m1.2 m1.1
    exact ih rem (gTk2 a).1 _ t1 t2 (by omega) m2.2 m2.1
