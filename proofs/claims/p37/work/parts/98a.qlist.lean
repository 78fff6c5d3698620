/-! THE COUNT (wip/whole/BOUND.md). Lists of entries on the way: c is 2 * (8192 * number + fills) + garbled. -/
def cEn (c : Nat) : Nat := c / 2 / 8192
def cEf (c : Nat) : Nat := c / 2 % 8192
def cNx (c : Nat) : Nat := if cEf c ≤ cEn c + 1 then cEn c + 1 else cEf c
theorem cEn_of {n f g : Nat} (hf : f < 8192) (hg : g < 2) : cEn (2 * (8192 * n + f) + g) = n := by unfold cEn; omega
theorem cEf_of {n f g : Nat} (hf : f < 8192) (hg : g < 2) : cEf (2 * (8192 * n + f) + g) = f := by unfold cEf; omega
theorem cNx_gt (c : Nat) : cEn c < cNx c := by unfold cNx; split <;> omega
theorem cNx_0 {c : Nat} (h : cEf c = 0) : cNx c = cEn c + 1 := by unfold cNx; rw [if_pos (by omega)]
/-- the first entry with a number of x at least has x; or there is none, and x is behind the last number -/
def NXq (x : Nat) : List Nat → Nat → Prop
  | [], S => x = S + 1
  | c :: q, S => if cEn c < x then NXq x q S else cEn c = x
def chn (S : Nat) : List Nat → Prop
  | [] => True
  | c :: q => NXq (cNx c) q S ∧ chn S q
theorem NXq_live {x S l : Nat} (hl : cEn l = S + 1) : ∀ q : List Nat, NXq x q S → NXq x (q ++ [l]) (S + 1) := by
  intro q
  induction q with
  | nil =>
    intro h
    show if cEn l < x then _ else cEn l = x
    have h' : x = S + 1 := h
    rw [if_neg (by omega)]
    omega
  | cons c q ih =>
    intro h
    have h' : if cEn c < x then NXq x q S else cEn c = x := h
    show if cEn c < x then NXq x (q ++ [l]) (S + 1) else cEn c = x
    by_cases c1 : cEn c < x
    · rw [if_pos c1] at h' ⊢; exact ih h'
    · rw [if_neg c1] at h' ⊢; exact h'
theorem NXq_end {S : Nat} : ∀ b : List Nat, (∀ c, c ∈ b → cEn c ≤ S) → NXq (S + 1) b S := by
  intro b
  induction b with
  | nil => exact fun _ => rfl
  | cons c b ih =>
    intro h
    show if cEn c < S + 1 then NXq (S + 1) b S else cEn c = S + 1
    have := h c (List.mem_cons_self ..)
    rw [if_pos (by omega)]
    exact ih (fun c hc => h c (List.mem_cons_of_mem _ hc))
theorem NXq_block {x S : Nat} {b : List Nat} (hb : ∀ c, c ∈ b → cEn c ≤ S) : ∀ q : List Nat, NXq x q S → NXq x (q ++ b) S := by
  intro q
  induction q with
  | nil =>
    intro h
    have h' : x = S + 1 := h
    rw [h', List.nil_append]
    exact NXq_end b hb
  | cons c q ih =>
    intro h
    have h' : if cEn c < x then NXq x q S else cEn c = x := h
    show if cEn c < x then NXq x (q ++ b) S else cEn c = x
    by_cases c1 : cEn c < x
    · rw [if_pos c1] at h' ⊢; exact ih h'
    · rw [if_neg c1] at h' ⊢; exact h'
theorem chn_live {S l : Nat} (hl : cEn l = S + 1) (hx : cNx l = S + 2) : ∀ q : List Nat, chn S q → chn (S + 1) (q ++ [l]) := by
  intro q
  induction q with
  | nil => exact fun _ => ⟨hx, trivial⟩
  | cons c q ih => exact fun h => ⟨NXq_live hl q h.1, ih h.2⟩
theorem chn_block {S : Nat} {b : List Nat} (hb : ∀ c, c ∈ b → cEn c ≤ S) (hc : chn S b) : ∀ q : List Nat, chn S q → chn S (q ++ b) := by
  intro q
  induction q with
  | nil => exact fun _ => hc
  | cons c q ih => exact fun h => ⟨NXq_block hb q h.1, ih h.2⟩
/-- the numbers of a piece grow, from m on -/
def inc (m : Nat) : List Nat → Prop
  | [] => True
  | c :: q => m ≤ cEn c ∧ inc (cEn c + 1) q
theorem inc_le {m m' : Nat} (hm : m' ≤ m) {q : List Nat} (h : inc m q) : inc m' q := by
  cases q with
  | nil => trivial
  | cons c q => exact ⟨Nat.le_trans hm h.1, h.2⟩
theorem inc_all {m : Nat} : ∀ {q : List Nat}, inc m q → ∀ c, c ∈ q → m ≤ cEn c := by
  intro q
  induction q generalizing m with
  | nil => exact fun _ c hc => by cases hc
  | cons c q ih =>
    intro h c' hc'
    rcases List.mem_cons.mp hc' with rfl | h'
    · exact h.1
    · have := ih h.2 c' h'
      have := h.1
      omega
theorem inc_snoc {m S l : Nat} (hm : m ≤ S + 1) (hl : cEn l = S + 1) : ∀ {q : List Nat}, inc m q → (∀ c, c ∈ q → cEn c ≤ S) → inc m (q ++ [l]) := by
  intro q
  induction q generalizing m with
  | nil => exact fun _ _ => ⟨by omega, trivial⟩
  | cons c q ih =>
    intro h hS
    refine ⟨h.1, ih ?_ h.2 (fun c hc => hS c (List.mem_cons_of_mem _ hc))⟩
    have := hS c (List.mem_cons_self ..)
    omega
/-- an answer: its entries follow each other from k to behind the last number -/
def blk (S : Nat) : Nat → List Nat → Prop
  | k, [] => k = S + 1
  | k, c :: b => cEn c = k ∧ (cNx c ≤ S + 1 ∧ cEf c ≠ 1) ∧ blk S (cNx c) b
theorem blk_all {S : Nat} : ∀ {b : List Nat} {k : Nat}, blk S k b → ∀ c, c ∈ b → k ≤ cEn c ∧ cEn c ≤ S ∧ cNx c ≤ S + 1 ∧ cEf c ≠ 1 := by
  intro b
  induction b with
  | nil => exact fun _ c hc => by cases hc
  | cons c b ih =>
    intro k h c' hc'
    have hx := cNx_gt c
    rcases List.mem_cons.mp hc' with rfl | h'
    · have h1 := h.1
      exact ⟨by omega, by have := h.2.1.1; omega, h.2.1.1, h.2.1.2⟩
    · have h3 := ih h.2.2 c' h'
      have := h.1
      exact ⟨by omega, by omega, by omega, h3.2.2.2⟩
theorem blk_inc {S : Nat} : ∀ {b : List Nat} {k : Nat}, blk S k b → inc k b := by
  intro b
  induction b with
  | nil => exact fun _ => trivial
  | cons c b ih =>
    intro k h
    have hx := cNx_gt c
    exact ⟨by have := h.1; omega, inc_le (by omega) (ih h.2.2)⟩
theorem blk_chn {S : Nat} : ∀ {b : List Nat} {k : Nat}, blk S k b → chn S b := by
  intro b
  induction b with
  | nil => exact fun _ => trivial
  | cons c b ih =>
    intro k h
    refine ⟨?_, ih h.2.2⟩
    cases b with
    | nil => exact h.2.2
    | cons c' b =>
      show if cEn c' < cNx c then _ else cEn c' = cNx c
      have h1 : cEn c' = cNx c := h.2.2.1
      rw [if_neg (by omega)]
      exact h1
/-! Pieces: the queue is cut where answers begin. -/
def cat : List (List Nat) → List Nat
  | [] => []
  | l :: r => l ++ cat r
def psh : List (List Nat) → Nat → List (List Nat)
  | [], c => [[c]]
  | [l], c => [l ++ [c]]
  | l :: m :: r, c => l :: psh (m :: r) c
theorem cat_psh (c : Nat) : ∀ L : List (List Nat), cat (psh L c) = cat L ++ [c]
  | [] => rfl
  | [l] => by show (l ++ [c]) ++ [] = (l ++ []) ++ [c]; simp
  | l :: m :: r => by
    show l ++ cat (psh (m :: r) c) = (l ++ cat (m :: r)) ++ [c]
    rw [cat_psh c (m :: r), List.append_assoc]
theorem psh_len (c : Nat) : ∀ L : List (List Nat), L ≠ [] → (psh L c).length = L.length
  | [], h => absurd rfl h
  | [l], _ => rfl
  | l :: m :: r, _ => by
    show (psh (m :: r) c).length + 1 = _
    rw [psh_len c (m :: r) (by simp)]
    rfl
theorem psh_ne (c : Nat) : ∀ L : List (List Nat), psh L c ≠ []
  | [] => by simp [psh]
  | [l] => by simp [psh]
  | l :: m :: r => by simp [psh]
theorem cat_app : ∀ (L : List (List Nat)) (b : List Nat), cat (L ++ [b]) = cat L ++ b
  | [], b => by show b ++ [] = [] ++ b; simp
  | l :: r, b => by
    show l ++ cat (r ++ [b]) = (l ++ cat r) ++ b
    rw [cat_app r b, List.append_assoc]
/-- each run of pieces to the end is short -/
def sfx (V lv : Nat) : List (List Nat) → Prop
  | [] => True
  | l :: r => l.length + (cat r).length ≤ (r.length + 1) * V + lv ∧ sfx V lv r
theorem sfx_mono {V V' lv lv' : Nat} (hV : V ≤ V') (hl : lv ≤ lv') : ∀ {L : List (List Nat)}, sfx V lv L → sfx V' lv' L := by
  intro L
  induction L with
  | nil => exact fun _ => trivial
  | cons l r ih =>
    intro h
    refine ⟨?_, ih h.2⟩
    have h1 := h.1
    have := Nat.mul_le_mul_left (r.length + 1) hV
    omega
theorem sfx_psh {V lv : Nat} (c : Nat) : ∀ L : List (List Nat), sfx V lv L → sfx V (lv + 1) (psh L c)
  | [], _ => ⟨by show 1 + 0 ≤ (0 + 1) * V + (lv + 1); omega, trivial⟩
  | [l], h => by
    have h1 := h.1
    refine ⟨?_, trivial⟩
    show (l ++ [c]).length + ([] : List Nat).length ≤ (0 + 1) * V + (lv + 1)
    have h2 : l.length + ([] : List Nat).length ≤ (0 + 1) * V + lv := h1
    simp only [List.length_append, List.length_cons, List.length_nil] at h2 ⊢
    omega
  | l :: m :: r, h => by
    refine ⟨?_, sfx_psh c (m :: r) h.2⟩
    have h1 := h.1
    rw [cat_psh, psh_len c (m :: r) (by simp)]
    simp only [List.length_append, List.length_cons, List.length_nil] at h1 ⊢
    omega
theorem sfx_app {V lv : Nat} {b : List Nat} (hb : b.length ≤ V) : ∀ L : List (List Nat), sfx V lv L → sfx V lv (L ++ [b])
  | [], _ => ⟨by show b.length + 0 ≤ (0 + 1) * V + lv; omega, trivial⟩
  | l :: r, h => by
    refine ⟨?_, sfx_app hb r h.2⟩
    have h1 := h.1
    show l.length + (cat (r ++ [b])).length ≤ ((r ++ [b]).length + 1) * V + lv
    rw [cat_app]
    simp only [List.length_append, List.length_cons, List.length_nil] at h1 ⊢
    rw [Nat.add_mul (r.length + (0 + 1)) 1 V, Nat.zero_add, Nat.one_mul]
    omega
theorem sfx_len {V lv : Nat} {L : List (List Nat)} (h : sfx V lv L) : (cat L).length ≤ L.length * V + lv := by
  cases L with
  | nil => exact Nat.zero_le _
  | cons l r =>
    have h1 := h.1
    show (l ++ cat r).length ≤ (r.length + 1) * V + lv
    rw [List.length_append]
    exact h1
/-- the first entry goes -/
def popL : List (List Nat) → List (List Nat)
  | [] => []
  | [] :: r => popL r
  | (_ :: l) :: r => l :: r
theorem popL_cat : ∀ (L : List (List Nat)) (c : Nat) (q : List Nat), cat L = c :: q → cat (popL L) = q ∧ popL L ≠ [] ∧ (popL L).length ≤ L.length
  | [], c, q, h => by cases h
  | [] :: r, c, q, h => by
    have := popL_cat r c q h
    exact ⟨this.1, this.2.1, Nat.le_succ_of_le this.2.2⟩
  | (x :: l) :: r, c, q, h => by
    have h' : x :: (l ++ cat r) = c :: q := h
    refine ⟨(List.cons.inj h').2, by simp [popL], Nat.le_refl _⟩
theorem popL_sfx {V lv : Nat} : ∀ L : List (List Nat), sfx V lv L → sfx V lv (popL L)
  | [], _ => trivial
  | [] :: r, h => popL_sfx r h.2
  | (x :: l) :: r, h => by
    refine ⟨?_, h.2⟩
    have h1 := h.1
    simp only [List.length_cons] at h1
    omega
/-- all pieces grow -/
def incA (L : List (List Nat)) : Prop := ∀ l, l ∈ L → inc 0 l
theorem popL_inc : ∀ L : List (List Nat), incA L → incA (popL L)
  | [], h => h
  | [] :: r, h => popL_inc r (fun l hl => h l (List.mem_cons_of_mem _ hl))
  | (x :: l) :: r, h => fun m hm => by
    rcases List.mem_cons.mp hm with rfl | h'
    · exact inc_le (Nat.zero_le _) (h _ (List.mem_cons_self ..)).2
    · exact h m (List.mem_cons_of_mem _ h')
/-- what stands in the piece of the entry that goes is behind it; if no piece ends, it is the first piece's -/
theorem popL_head : ∀ (L : List (List Nat)) (c : Nat) (q : List Nat), cat L = c :: q → incA L → (∀ l r, popL L = l :: r → inc (cEn c + 1) l) ∧ ((popL L).length = L.length → ∀ l r, L = l :: r → ∃ l', l = c :: l' ∧ popL L = l' :: r)
  | [], c, q, h, _ => by cases h
  | [] :: r, c, q, h, hi => by
    have h1 := popL_head r c q h (fun l hl => hi l (List.mem_cons_of_mem _ hl))
    have h2 := (popL_cat r c q h).2.2
    refine ⟨h1.1, fun e => ?_⟩
    have e' : (popL r).length = r.length + 1 := e
    omega
  | (x :: l) :: r, c, q, h, hi => by
    have h' : x :: (l ++ cat r) = c :: q := h
    have hx := (List.cons.inj h').1
    subst hx
    refine ⟨fun l' r' e => ?_, fun _ l' r' e => ?_⟩
    · have e' : l :: r = l' :: r' := e
      have := (List.cons.inj e').1
      subst this
      exact (hi _ (List.mem_cons_self ..)).2
    · have := List.cons.inj e
      exact ⟨l, this.1.symm, by rw [← this.2]; rfl⟩
theorem psh_inc {S l : Nat} (hl : cEn l = S + 1) : ∀ L : List (List Nat), incA L → (∀ c, c ∈ cat L → cEn c ≤ S) → incA (psh L l)
  | [], _, _ => fun m hm => by
    have : m = [l] := by simpa [psh] using hm
    subst this
    exact ⟨Nat.zero_le _, trivial⟩
  | [x], h, hS => fun m hm => by
    have : m = x ++ [l] := by simpa [psh] using hm
    subst this
    exact inc_snoc (Nat.zero_le _) hl (h x (List.mem_cons_self ..)) (fun c hc => hS c (by show c ∈ x ++ []; simpa using hc))
  | x :: y :: r, h, hS => fun m hm => by
    have hm' : m ∈ x :: psh (y :: r) l := hm
    rcases List.mem_cons.mp hm' with rfl | h'
    · exact h _ (List.mem_cons_self ..)
    · exact psh_inc hl (y :: r) (fun l hl => h l (List.mem_cons_of_mem _ hl)) (fun c hc => hS c (by show c ∈ x ++ cat (y :: r); exact List.mem_append_right _ hc)) m h'
theorem app_inc {L : List (List Nat)} {b : List Nat} (h : incA L) (hb : inc 0 b) : incA (L ++ [b]) := fun m hm => by
  rcases List.mem_append.mp hm with h' | h'
  · exact h m h'
  · have : m = b := by simpa using h'
    subst this
    exact hb
/-! Counting in lists. -/
def cntL (p : Nat → Bool) : List Nat → Nat
  | [] => 0
  | c :: q => (if p c then 1 else 0) + cntL p q
theorem cntL_app (p : Nat → Bool) : ∀ q r : List Nat, cntL p (q ++ r) = cntL p q + cntL p r := by
  intro q
  induction q with
  | nil => intro r; show cntL p r = 0 + cntL p r; omega
  | cons c q ih => intro r; show _ + cntL p (q ++ r) = (_ + cntL p q) + cntL p r; rw [ih]; omega
theorem cntL_congr {p p' : Nat → Bool} : ∀ {q : List Nat}, (∀ c, c ∈ q → p c = p' c) → cntL p q = cntL p' q := by
  intro q
  induction q with
  | nil => exact fun _ => rfl
  | cons c q ih =>
    intro h
    show _ + cntL p q = _ + cntL p' q
    rw [ih (fun c hc => h c (List.mem_cons_of_mem _ hc)), h c (List.mem_cons_self ..)]
theorem cntL_le (p : Nat → Bool) : ∀ q : List Nat, cntL p q ≤ q.length := by
  intro q
  induction q with
  | nil => exact Nat.le_refl _
  | cons c q ih =>
    show (if p c then 1 else 0) + cntL p q ≤ q.length + 1
    split <;> omega
theorem cntL_imp {p p' : Nat → Bool} : ∀ {q : List Nat}, (∀ c, c ∈ q → p c = true → p' c = true) → cntL p q ≤ cntL p' q := by
  intro q
  induction q with
  | nil => exact fun _ => Nat.le_refl _
  | cons c q ih =>
    intro h
    have h1 := ih (fun c hc => h c (List.mem_cons_of_mem _ hc))
    have h2 := h c (List.mem_cons_self ..)
    show (if p c then 1 else 0) + cntL p q ≤ (if p' c then 1 else 0) + cntL p' q
    by_cases c1 : p c = true
    · rw [if_pos c1, if_pos (h2 c1)]; omega
    · rw [if_neg c1]; omega
theorem cntL_lt {p p' : Nat → Bool} {x : Nat} (hx : p x = false) (hx' : p' x = true) : ∀ {q : List Nat}, (∀ c, c ∈ q → p c = true → p' c = true) → x ∈ q → cntL p q + 1 ≤ cntL p' q := by
  intro q
  induction q with
  | nil => exact fun _ h => by cases h
  | cons c q ih =>
    intro h hm
    have h2 := h c (List.mem_cons_self ..)
    have h3 : ∀ c, c ∈ q → p c = true → p' c = true := fun c hc => h c (List.mem_cons_of_mem _ hc)
    show (if p c then 1 else 0) + cntL p q + 1 ≤ (if p' c then 1 else 0) + cntL p' q
    rcases List.mem_cons.mp hm with rfl | hq
    · have := cntL_imp h3
      rw [hx, hx']
      simp only [Bool.false_eq_true, if_false, if_true]
      omega
    · have := ih h3 hq
      by_cases c1 : p c = true
      · rw [if_pos c1, if_pos (h2 c1)]; omega
      · rw [if_neg c1]; omega
