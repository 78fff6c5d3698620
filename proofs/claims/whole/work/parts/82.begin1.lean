set_option maxHeartbeats 4000000 in
set_option maxRecDepth 100000 in
theorem c1_adopt {D : va_G} {E : Nat → ClassId} {A : Nat → Prop} {a30 a31 : Nat} {H : Heap} {m0 r3 r4 r5 r6 r7 r8 r9 r10 r11 r12 r13 r14 r15 r16 r17 r18 r19 r20 r21 r23 r24 r25 r26 r27 r28 r29 r30 r31 r33 r34 r36 r37 r38 r39 r40 r41 r42 r43 x0 qa0 qa1 qa2 qa3 qa4 qa5 qa6 qa7 qb0 qb1 qb2 qb3 qb4 qb5 qb6 qb7 ql2 ql3 ql4 ql5 qf0 qf1 qq00 qq10 qq01 qq11 qq02 qq12 o9 : Nat} (hA : ∀ q ∈ ([m0, r3, r4, r5, r6, r7, r8, r9, r10, r11, r12, r13, r14, r15, r16, r17, r18, r19, r20, r21, r23, r24, r25, r26, r27, r28, r29, r30, r31, r33, r34, r36, r37, r38, r39, r40, r41, r42, r43, x0, qa0, qa1, qa2, qa3, qa4, qa5, qa6, qa7, qb0, qb1, qb2, qb3, qb4, qb5, qb6, qb7, ql2, ql3, ql4, ql5, qf0, qf1, qq00, qq10, qq01, qq11, qq02, qq12, o9] : List Nat), A q) (h : wld D E A (c0S a30 a31) [(m0, .inr (12, [.int 0, .int 0, .int 0, .ref r3, .ref r4, .ref r5, .ref r6, .ref r7, .ref r8, .ref r9, .ref r10, .ref r11, .ref r12, .ref r13, .ref r14, .ref r15, .ref r16, .ref r17, .ref r18, .ref r19, .ref r20, .ref r21, .int 0, .ref r23, .ref r24, .ref r25, .ref r26, .ref r27, .ref r28, .ref r29, .ref r30, .ref r31, .int 0, .ref r33, .ref r34, .int 0, .ref r36, .ref r37, .ref r38, .ref r39, .ref r40, .ref r41, .ref r42, .ref r43, .int 0])), (r3, .inl (E 1, 2, .inl (fun _ => 0))), (r4, .inl (E 0, 2, .inl (fun _ => 0))), (r5, .inl (E 0, 2, .inl (up1 (up1 (fun _ => 0) 0 1) 1 1))), (r6, .inl (E 0, 2, .inl (fun _ => 0))), (r7, .inl (E 0, 2, .inl (fun _ => 0))), (r8, .inl (E 0, 2, .inl (fun _ => 0))), (r9, .inl (E 0, 2, .inl (fun _ => 0))), (r10, .inl (E 0, 2, .inl (fun _ => 0))), (r11, .inl (E 0, 16384, .inl (fun _ => 0))), (r12, .inl (E 0, 16384, .inl (fun _ => 0))), (r13, .inl (E 1, 16384, .inl (fun _ => 0))), (r14, .inl (E 0, 16384, .inl (fun _ => 0))), (r15, .inl (E 0, 16384, .inl (fun _ => 0))), (r16, .inl (E 0, 16384, .inl (fun _ => 0))), (r17, .inl (E 0, 16384, .inl (fun _ => 0))), (r18, .inl (E 0, 16384, .inl (fun _ => 0))), (r19, .inl (E 0, 2, .inl (fun _ => 0))), (r20, .inl (E 0, 2, .inl (fun _ => 0))), (r21, .inl (E 0, 131072, .inl (fun _ => 0))), (r23, .inl (E 1, 40, .inl (fun _ => 0))), (r24, .inl (E 1, 80, .inl (fun _ => 0))), (r25, .inl (E 0, 80, .inl (fun _ => 0))), (r26, .inl (E 0, 80, .inl (fun _ => 0))), (r27, .inl (E 0, 80, .inl (fun _ => 0))), (r28, .inl (E 0, 80, .inl (fun _ => 0))), (r29, .inl (E 1, 40, .inl (fun _ => 0))), (r30, .inl (E 0, 40, .inl (fun _ => 0))), (r31, .inl (E 0, 40, .inl (fun _ => 0))), (r33, .inl (E 0, 6, .inl (fun _ => 0))), (r34, .inl (E 0, 6, .inl (fun _ => 0))), (r36, .inl (E 0, 100, .inl (fun _ => 0))), (r37, .inl (E 0, 100, .inl (fun _ => 0))), (r38, .inl (E 0, 100, .inl (fun _ => 0))), (r39, .inl (E 0, 100, .inl (fun _ => 0))), (r40, .inl (E 0, 100, .inl (fun _ => 0))), (r41, .inl (E 0, 200, .inl (fun _ => 0))), (r42, .inl (E 1, 200, .inl (fun _ => 0))), (r43, .inl (E 1, 200, .inl (fun _ => 0))), (x0, .inr (11, [.ref qa0, .ref qb0, .ref ql2, .ref ql3, .ref ql4, .ref ql5, .ref qf0, .ref qf1, .int 0, .int 0, .int 0])), (qa0, .inr (8, [.ref qa1, .ref qa2, .ref qa6, .int 0, .int 1, .int 0, .int 0, .int 0, .int 0])), (qa1, .inr (2, [.int 0, .ref (rA (c0S a30 a31) 31 0), .int 0])), (qa2, .inr (10, [.ref qa3, .ref qa4, .ref qa5, .int 0, .int 0])), (qa3, .inl (E 0, 32, .inl (fun _ => 0))), (qa4, .inl (E 0, 32, .inl (fun _ => 0))), (qa5, .inl (E 1, 32, .inl (fun _ => 0))), (qa6, .inr (3, [.ref qa7, .int 0])), (qa7, .inl (E 0, 32, .inl (fun _ => 0))), (qb0, .inr (8, [.ref qb1, .ref qb2, .ref qb6, .int 0, .int 1, .int 0, .int 0, .int 0, .int 0])), (qb1, .inr (2, [.int 0, .ref (rA (c0S a30 a31) 31 0), .int 0])), (qb2, .inr (10, [.ref qb3, .ref qb4, .ref qb5, .int 0, .int 0])), (qb3, .inl (E 0, 32, .inl (fun _ => 0))), (qb4, .inl (E 0, 32, .inl (fun _ => 0))), (qb5, .inl (E 1, 32, .inl (fun _ => 0))), (qb6, .inr (3, [.ref qb7, .int 0])), (qb7, .inl (E 0, 32, .inl (fun _ => 0))), (ql2, .inr (2, [.int 0, .ref (rA (c0S a30 a31) 31 0), .int 0])), (ql3, .inr (2, [.int 0, .ref (rA (c0S a30 a31) 31 0), .int 0])), (ql4, .inr (2, [.int 0, .ref (rA (c0S a30 a31) 31 0), .int 0])), (ql5, .inr (2, [.int 0, .ref (rA (c0S a30 a31) 31 0), .int 0])), (qf0, .inl (E 3, 3, .inr (.inr (.inr (.inr (va_up (va_up (va_up (fun _ => none) 0 (some qq00)) 1 (some qq01)) 2 (some qq02))))))), (qf1, .inl (E 3, 3, .inr (.inr (.inr (.inr (va_up (va_up (va_up (fun _ => none) 0 (some qq10)) 1 (some qq11)) 2 (some qq12))))))), (qq00, .inr (9, [.int 0, .int 0, .int 0])), (qq10, .inr (9, [.int 0, .int 0, .int 0])), (qq01, .inr (9, [.int 1, .int 0, .int 0])), (qq11, .inr (9, [.int 1, .int 0, .int 0])), (qq02, .inr (9, [.int 2, .int 0, .int 0])), (qq12, .inr (9, [.int 2, .int 0, .int 0])), (o9, .inl (E 4, 1, .inr (.inl (fun _ => 0))))] H) : wld D E A (zS c1μ c1ν c1a (c1A a30 a31 [m0, r3, r4, r5, r6, r7, r8, r9, r10, r11, r12, r13, r14, r15, r16, r17, r18, r19, r20, r21, r23, r24, r25, r26, r27, r28, r29, r30, r31, r33, r34, r36, r37, r38, r39, r40, r41, r42, r43, x0, qa0, qa1, qa2, qa3, qa4, qa5, qa6, qa7, qb0, qb1, qb2, qb3, qb4, qb5, qb6, qb7, ql2, ql3, ql4, ql5, qf0, qf1, qq00, qq10, qq01, qq11, qq02, qq12, o9])) [] H := by
  have key : ∀ (j k i : Nat), c1T[j]? = some (k, i) → ([(m0, .inr (12, [.int 0, .int 0, .int 0, .ref r3, .ref r4, .ref r5, .ref r6, .ref r7, .ref r8, .ref r9, .ref r10, .ref r11, .ref r12, .ref r13, .ref r14, .ref r15, .ref r16, .ref r17, .ref r18, .ref r19, .ref r20, .ref r21, .int 0, .ref r23, .ref r24, .ref r25, .ref r26, .ref r27, .ref r28, .ref r29, .ref r30, .ref r31, .int 0, .ref r33, .ref r34, .int 0, .ref r36, .ref r37, .ref r38, .ref r39, .ref r40, .ref r41, .ref r42, .ref r43, .int 0])), (r3, .inl (E 1, 2, .inl (fun _ => 0))), (r4, .inl (E 0, 2, .inl (fun _ => 0))), (r5, .inl (E 0, 2, .inl (up1 (up1 (fun _ => 0) 0 1) 1 1))), (r6, .inl (E 0, 2, .inl (fun _ => 0))), (r7, .inl (E 0, 2, .inl (fun _ => 0))), (r8, .inl (E 0, 2, .inl (fun _ => 0))), (r9, .inl (E 0, 2, .inl (fun _ => 0))), (r10, .inl (E 0, 2, .inl (fun _ => 0))), (r11, .inl (E 0, 16384, .inl (fun _ => 0))), (r12, .inl (E 0, 16384, .inl (fun _ => 0))), (r13, .inl (E 1, 16384, .inl (fun _ => 0))), (r14, .inl (E 0, 16384, .inl (fun _ => 0))), (r15, .inl (E 0, 16384, .inl (fun _ => 0))), (r16, .inl (E 0, 16384, .inl (fun _ => 0))), (r17, .inl (E 0, 16384, .inl (fun _ => 0))), (r18, .inl (E 0, 16384, .inl (fun _ => 0))), (r19, .inl (E 0, 2, .inl (fun _ => 0))), (r20, .inl (E 0, 2, .inl (fun _ => 0))), (r21, .inl (E 0, 131072, .inl (fun _ => 0))), (r23, .inl (E 1, 40, .inl (fun _ => 0))), (r24, .inl (E 1, 80, .inl (fun _ => 0))), (r25, .inl (E 0, 80, .inl (fun _ => 0))), (r26, .inl (E 0, 80, .inl (fun _ => 0))), (r27, .inl (E 0, 80, .inl (fun _ => 0))), (r28, .inl (E 0, 80, .inl (fun _ => 0))), (r29, .inl (E 1, 40, .inl (fun _ => 0))), (r30, .inl (E 0, 40, .inl (fun _ => 0))), (r31, .inl (E 0, 40, .inl (fun _ => 0))), (r33, .inl (E 0, 6, .inl (fun _ => 0))), (r34, .inl (E 0, 6, .inl (fun _ => 0))), (r36, .inl (E 0, 100, .inl (fun _ => 0))), (r37, .inl (E 0, 100, .inl (fun _ => 0))), (r38, .inl (E 0, 100, .inl (fun _ => 0))), (r39, .inl (E 0, 100, .inl (fun _ => 0))), (r40, .inl (E 0, 100, .inl (fun _ => 0))), (r41, .inl (E 0, 200, .inl (fun _ => 0))), (r42, .inl (E 1, 200, .inl (fun _ => 0))), (r43, .inl (E 1, 200, .inl (fun _ => 0))), (x0, .inr (11, [.ref qa0, .ref qb0, .ref ql2, .ref ql3, .ref ql4, .ref ql5, .ref qf0, .ref qf1, .int 0, .int 0, .int 0])), (qa0, .inr (8, [.ref qa1, .ref qa2, .ref qa6, .int 0, .int 1, .int 0, .int 0, .int 0, .int 0])), (qa1, .inr (2, [.int 0, .ref (rA (c0S a30 a31) 31 0), .int 0])), (qa2, .inr (10, [.ref qa3, .ref qa4, .ref qa5, .int 0, .int 0])), (qa3, .inl (E 0, 32, .inl (fun _ => 0))), (qa4, .inl (E 0, 32, .inl (fun _ => 0))), (qa5, .inl (E 1, 32, .inl (fun _ => 0))), (qa6, .inr (3, [.ref qa7, .int 0])), (qa7, .inl (E 0, 32, .inl (fun _ => 0))), (qb0, .inr (8, [.ref qb1, .ref qb2, .ref qb6, .int 0, .int 1, .int 0, .int 0, .int 0, .int 0])), (qb1, .inr (2, [.int 0, .ref (rA (c0S a30 a31) 31 0), .int 0])), (qb2, .inr (10, [.ref qb3, .ref qb4, .ref qb5, .int 0, .int 0])), (qb3, .inl (E 0, 32, .inl (fun _ => 0))), (qb4, .inl (E 0, 32, .inl (fun _ => 0))), (qb5, .inl (E 1, 32, .inl (fun _ => 0))), (qb6, .inr (3, [.ref qb7, .int 0])), (qb7, .inl (E 0, 32, .inl (fun _ => 0))), (ql2, .inr (2, [.int 0, .ref (rA (c0S a30 a31) 31 0), .int 0])), (ql3, .inr (2, [.int 0, .ref (rA (c0S a30 a31) 31 0), .int 0])), (ql4, .inr (2, [.int 0, .ref (rA (c0S a30 a31) 31 0), .int 0])), (ql5, .inr (2, [.int 0, .ref (rA (c0S a30 a31) 31 0), .int 0])), (qf0, .inl (E 3, 3, .inr (.inr (.inr (.inr (va_up (va_up (va_up (fun _ => none) 0 (some qq00)) 1 (some qq01)) 2 (some qq02))))))), (qf1, .inl (E 3, 3, .inr (.inr (.inr (.inr (va_up (va_up (va_up (fun _ => none) 0 (some qq10)) 1 (some qq11)) 2 (some qq12))))))), (qq00, .inr (9, [.int 0, .int 0, .int 0])), (qq10, .inr (9, [.int 0, .int 0, .int 0])), (qq01, .inr (9, [.int 1, .int 0, .int 0])), (qq11, .inr (9, [.int 1, .int 0, .int 0])), (qq02, .inr (9, [.int 2, .int 0, .int 0])), (qq12, .inr (9, [.int 2, .int 0, .int 0])), (o9, .inl (E 4, 1, .inr (.inl (fun _ => 0))))] : va_W)[j]? = some (rA (zS c1μ c1ν c1a (c1A a30 a31 [m0, r3, r4, r5, r6, r7, r8, r9, r10, r11, r12, r13, r14, r15, r16, r17, r18, r19, r20, r21, r23, r24, r25, r26, r27, r28, r29, r30, r31, r33, r34, r36, r37, r38, r39, r40, r41, r42, r43, x0, qa0, qa1, qa2, qa3, qa4, qa5, qa6, qa7, qb0, qb1, qb2, qb3, qb4, qb5, qb6, qb7, ql2, ql3, ql4, ql5, qf0, qf1, qq00, qq10, qq01, qq11, qq02, qq12, o9])) k i, ct E (zS c1μ c1ν c1a (c1A a30 a31 [m0, r3, r4, r5, r6, r7, r8, r9, r10, r11, r12, r13, r14, r15, r16, r17, r18, r19, r20, r21, r23, r24, r25, r26, r27, r28, r29, r30, r31, r33, r34, r36, r37, r38, r39, r40, r41, r42, r43, x0, qa0, qa1, qa2, qa3, qa4, qa5, qa6, qa7, qb0, qb1, qb2, qb3, qb4, qb5, qb6, qb7, ql2, ql3, ql4, ql5, qf0, qf1, qq00, qq10, qq01, qq11, qq02, qq12, o9])) k i) := fun j k i h => by
    match j, h with
    | 0, h => cases h; rfl
    | 1, h => cases h; rfl
    | 2, h => cases h; rfl
    | 3, h => cases h; rfl
    | 4, h => cases h; rfl
    | 5, h => cases h; rfl
    | 6, h => cases h; rfl
    | 7, h => cases h; rfl
    | 8, h => cases h; rfl
    | 9, h => cases h; rfl
    | 10, h => cases h; rfl
    | 11, h => cases h; rfl
    | 12, h => cases h; rfl
    | 13, h => cases h; rfl
    | 14, h => cases h; rfl
    | 15, h => cases h; rfl
    | 16, h => cases h; rfl
    | 17, h => cases h; rfl
    | 18, h => cases h; rfl
    | 19, h => cases h; rfl
    | 20, h => cases h; rfl
    | 21, h => cases h; rfl
    | 22, h => cases h; rfl
    | 23, h => cases h; rfl
    | 24, h => cases h; rfl
    | 25, h => cases h; rfl
    | 26, h => cases h; rfl
    | 27, h => cases h; rfl
    | 28, h => cases h; rfl
    | 29, h => cases h; rfl
    | 30, h => cases h; rfl
    | 31, h => cases h; rfl
    | 32, h => cases h; rfl
    | 33, h => cases h; rfl
    | 34, h => cases h; rfl
    | 35, h => cases h; rfl
    | 36, h => cases h; rfl
    | 37, h => cases h; rfl
    | 38, h => cases h; rfl
    | 39, h => cases h; rfl
    | 40, h => cases h; rfl
    | 41, h => cases h; rfl
    | 42, h => cases h; rfl
    | 43, h => cases h; rfl
    | 44, h => cases h; rfl
    | 45, h => cases h; rfl
    | 46, h => cases h; rfl
    | 47, h => cases h; rfl
    | 48, h => cases h; rfl
    | 49, h => cases h; rfl
    | 50, h => cases h; rfl
    | 51, h => cases h; rfl
    | 52, h => cases h; rfl
    | 53, h => cases h; rfl
    | 54, h => cases h; rfl
    | 55, h => cases h; rfl
    | 56, h => cases h; rfl
    | 57, h => cases h; rfl
    | 58, h => cases h; rfl
    | 59, h => cases h; rfl
    | 60, h => cases h; exact congrArg (fun z => some (qf0, (Sum.inl (E 3, 3, .inr (.inr (.inr (.inr z)))) : va_E))) (q3_eq (c1A a30 a31 [m0, r3, r4, r5, r6, r7, r8, r9, r10, r11, r12, r13, r14, r15, r16, r17, r18, r19, r20, r21, r23, r24, r25, r26, r27, r28, r29, r30, r31, r33, r34, r36, r37, r38, r39, r40, r41, r42, r43, x0, qa0, qa1, qa2, qa3, qa4, qa5, qa6, qa7, qb0, qb1, qb2, qb3, qb4, qb5, qb6, qb7, ql2, ql3, ql4, ql5, qf0, qf1, qq00, qq10, qq01, qq11, qq02, qq12, o9] 25) 0 1 2).symm
    | 61, h => cases h; exact congrArg (fun z => some (qf1, (Sum.inl (E 3, 3, .inr (.inr (.inr (.inr z)))) : va_E))) (q3_eq (c1A a30 a31 [m0, r3, r4, r5, r6, r7, r8, r9, r10, r11, r12, r13, r14, r15, r16, r17, r18, r19, r20, r21, r23, r24, r25, r26, r27, r28, r29, r30, r31, r33, r34, r36, r37, r38, r39, r40, r41, r42, r43, x0, qa0, qa1, qa2, qa3, qa4, qa5, qa6, qa7, qb0, qb1, qb2, qb3, qb4, qb5, qb6, qb7, ql2, ql3, ql4, ql5, qf0, qf1, qq00, qq10, qq01, qq11, qq02, qq12, o9] 25) 3 4 5).symm
    | 62, h => cases h; rfl
    | 63, h => cases h; rfl
    | 64, h => cases h; rfl
    | 65, h => cases h; rfl
    | 66, h => cases h; rfl
    | 67, h => cases h; rfl
    | 68, h => cases h; rfl
  refine wld_bulk c1T h (fun k i hl => ?_)
  have hk := c1_out hl.1
  rcases c1_live k hk i hl.1 with rfl | rfl | rfl | h1
  · exact absurd rfl (hl.2 rfl)
  · exact Or.inl ⟨⟨hl.1, fun e => absurd e (by decide)⟩, rfl, rfl⟩
  · exact Or.inl ⟨⟨hl.1, fun e => absurd e (by decide)⟩, rfl, rfl⟩
  · have hq := key _ _ _ h1
    refine Or.inr ⟨c1p k i, h1, hq, ?_⟩
    have hmem : rA (zS c1μ c1ν c1a (c1A a30 a31 [m0, r3, r4, r5, r6, r7, r8, r9, r10, r11, r12, r13, r14, r15, r16, r17, r18, r19, r20, r21, r23, r24, r25, r26, r27, r28, r29, r30, r31, r33, r34, r36, r37, r38, r39, r40, r41, r42, r43, x0, qa0, qa1, qa2, qa3, qa4, qa5, qa6, qa7, qb0, qb1, qb2, qb3, qb4, qb5, qb6, qb7, ql2, ql3, ql4, ql5, qf0, qf1, qq00, qq10, qq01, qq11, qq02, qq12, o9])) k i ∈ ([m0, r3, r4, r5, r6, r7, r8, r9, r10, r11, r12, r13, r14, r15, r16, r17, r18, r19, r20, r21, r23, r24, r25, r26, r27, r28, r29, r30, r31, r33, r34, r36, r37, r38, r39, r40, r41, r42, r43, x0, qa0, qa1, qa2, qa3, qa4, qa5, qa6, qa7, qb0, qb1, qb2, qb3, qb4, qb5, qb6, qb7, ql2, ql3, ql4, ql5, qf0, qf1, qq00, qq10, qq01, qq11, qq02, qq12, o9] : List Nat) := by
      have h9 := congrArg (Option.map Prod.fst) hq
      rw [← List.getElem?_map] at h9
      exact List.mem_of_getElem? h9
    exact hA _ hmem
set_option maxHeartbeats 4000000 in
set_option maxRecDepth 100000 in
theorem w_begin {p : Program} {l : Launch} {e : Env} {s : State} {m : MethodId} {args : Array Value} {below : List Frame} {meth : Method} {c : Code} {D : va_G} {E : Nat → ClassId} {A : Nat → Prop} {Q : State → Prop} {B : Nat × (Nat → Nat)} {a30 a31 b : Nat} (C : cx p s m args meth c D E A cL_law 7 "TradeLineLaw") (hEv : eV a30 a31 B A s s.heap) (kk : ∀ Ad : Nat → Nat → Nat, Ad 30 0 = a30 → Ad 31 0 = a31 → G p l e room_1 s m args below meth c D E A 7 Q (zS c1μ c1ν c1a Ad) [] (69) (264223) 23 [(0, .ref b), (1, .ref (Ad 0 0)), (2, .ref (Ad 40 0)), (3, .ref (Ad 90 0)), (4, .int 0)] []) : G p l e room_1 s m args below meth c D E A 7 Q (c0S a30 a31) [] (0) (0) 0 [(0, .ref b)] [] := by
  refine g_new (ci := 11) C inGX8 tyX8 tyX8_ok gw_33 gw_34 gw_1 rfl (fs := [.null, .null, .null, .null, .null, .null, .null, .null, .int 0, .int 0, .int 0]) (fun j hj => match j, hj with | 0, _ => rfl | 1, _ => rfl | 2, _ => rfl | 3, _ => rfl | 4, _ => rfl | 5, _ => rfl | 6, _ => rfl | 7, _ => rfl | 8, _ => rfl | 9, _ => rfl | 10, _ => rfl | n + 11, h => absurd h (by omega)) (by decide) (by decide) dL_law_0 (fun x0 hx0 x0s => ?_)
  refine g_dup C dL_law_3 rfl ?_
  refine g_cIe (n := 0) (exc := [(x0, .inr (11, [.null, .null, .null, .null, .null, .null, .null, .null, .int 0, .int 0, .int 0]))]) (exr := []) C hEv ⟨rfl, rfl⟩ [] _ rfl rfl [0] [] rfl rfl rfl rfl (by decide) (fun q h => by simp at h; exact ⟨0, _, by rw [h]; rfl⟩) (fun q h => by simp at h; rw [h]; exact hx0) (fun sz => k_tli l B (c0S a30 a31) x0 D E sz) rfl gw_37 gw_1 gw_35 gw_36 rfl ⟨by decide +kernel, by decide +kernel, by decide +kernel⟩ ⟨rfl, rfl⟩ ⟨Nat.le_of_ble_eq_true rfl, Nat.le_of_ble_eq_true rfl⟩ (Nat.le_of_ble_eq_true rfl) dL_law_4 ⟨by decide, by decide⟩ (fun u hp hx => ?_)
  obtain ⟨qa0, qa1, qa2, qa3, qa4, qa5, qa6, qa7, qb0, qb1, qb2, qb3, qb4, qb5, qb6, qb7, ql2, ql3, ql4, ql5, qf0, qf1, qq00, qq10, qq01, qq11, qq02, qq12, rfl⟩ := hp
  have hqa0 := (hx 1 _ rfl).1
  have hqa1 := (hx 2 _ rfl).1
  have hqa2 := (hx 3 _ rfl).1
  have hqa3 := (hx 4 _ rfl).1
  have hqa4 := (hx 5 _ rfl).1
  have hqa5 := (hx 6 _ rfl).1
  have hqa6 := (hx 7 _ rfl).1
  have hqa7 := (hx 8 _ rfl).1
  have hqb0 := (hx 9 _ rfl).1
  have hqb1 := (hx 10 _ rfl).1
  have hqb2 := (hx 11 _ rfl).1
  have hqb3 := (hx 12 _ rfl).1
  have hqb4 := (hx 13 _ rfl).1
  have hqb5 := (hx 14 _ rfl).1
  have hqb6 := (hx 15 _ rfl).1
  have hqb7 := (hx 16 _ rfl).1
  have hql2 := (hx 17 _ rfl).1
  have hql3 := (hx 18 _ rfl).1
  have hql4 := (hx 19 _ rfl).1
  have hql5 := (hx 20 _ rfl).1
  have hqf0 := (hx 21 _ rfl).1
  have hqf1 := (hx 22 _ rfl).1
  have hqq00 := (hx 23 _ rfl).1
  have hqq10 := (hx 24 _ rfl).1
  have hqq01 := (hx 25 _ rfl).1
  have hqq11 := (hx 26 _ rfl).1
  have hqq02 := (hx 27 _ rfl).1
  have hqq12 := (hx 28 _ rfl).1
  clear hx
  refine g_ex (ex' := [(x0, .inr (11, [.ref qa0, .ref qb0, .ref ql2, .ref ql3, .ref ql4, .ref ql5, .ref qf0, .ref qf1, .int 0, .int 0, .int 0])), (qa0, .inr (8, [.ref qa1, .ref qa2, .ref qa6, .int 0, .int 1, .int 0, .int 0, .int 0, .int 0])), (qa1, .inr (2, [.int 0, .ref (rA (c0S a30 a31) 31 0), .int 0])), (qa2, .inr (10, [.ref qa3, .ref qa4, .ref qa5, .int 0, .int 0])), (qa3, .inl (E 0, 32, .inl (fun _ => 0))), (qa4, .inl (E 0, 32, .inl (fun _ => 0))), (qa5, .inl (E 1, 32, .inl (fun _ => 0))), (qa6, .inr (3, [.ref qa7, .int 0])), (qa7, .inl (E 0, 32, .inl (fun _ => 0))), (qb0, .inr (8, [.ref qb1, .ref qb2, .ref qb6, .int 0, .int 1, .int 0, .int 0, .int 0, .int 0])), (qb1, .inr (2, [.int 0, .ref (rA (c0S a30 a31) 31 0), .int 0])), (qb2, .inr (10, [.ref qb3, .ref qb4, .ref qb5, .int 0, .int 0])), (qb3, .inl (E 0, 32, .inl (fun _ => 0))), (qb4, .inl (E 0, 32, .inl (fun _ => 0))), (qb5, .inl (E 1, 32, .inl (fun _ => 0))), (qb6, .inr (3, [.ref qb7, .int 0])), (qb7, .inl (E 0, 32, .inl (fun _ => 0))), (ql2, .inr (2, [.int 0, .ref (rA (c0S a30 a31) 31 0), .int 0])), (ql3, .inr (2, [.int 0, .ref (rA (c0S a30 a31) 31 0), .int 0])), (ql4, .inr (2, [.int 0, .ref (rA (c0S a30 a31) 31 0), .int 0])), (ql5, .inr (2, [.int 0, .ref (rA (c0S a30 a31) 31 0), .int 0])), (qf0, .inl (E 3, 3, .inr (.inr (.inr (.inr (va_up (va_up (va_up (fun _ => none) 0 (some qq00)) 1 (some qq01)) 2 (some qq02))))))), (qf1, .inl (E 3, 3, .inr (.inr (.inr (.inr (va_up (va_up (va_up (fun _ => none) 0 (some qq10)) 1 (some qq11)) 2 (some qq12))))))), (qq00, .inr (9, [.int 0, .int 0, .int 0])), (qq10, .inr (9, [.int 0, .int 0, .int 0])), (qq01, .inr (9, [.int 1, .int 0, .int 0])), (qq11, .inr (9, [.int 1, .int 0, .int 0])), (qq02, .inr (9, [.int 2, .int 0, .int 0])), (qq12, .inr (9, [.int 2, .int 0, .int 0]))]) [0, 1, 2, 3, 4, 5, 6, 7, 8, 9, 10, 11, 12, 13, 14, 15, 16, 17, 18, 19, 20, 21, 22, 23, 24, 25, 26, 27, 28] rfl rfl ?_
  refine g_astore_n (lv' := [(1, .ref x0), (0, .ref b)]) C dL_law_7 rfl (by decide) rfl ?_
  refine g_new (ci := 12) C inGX9 tyX9 tyX9_ok gw_1322 gw_1323 gw_9 rfl (fs := [.int 0, .int 0, .int 0, .null, .null, .null, .null, .null, .null, .null, .null, .null, .null, .null, .null, .null, .null, .null, .null, .null, .null, .null, .int 0, .null, .null, .null, .null, .null, .null, .null, .null, .null, .int 0, .null, .null, .int 0, .null, .null, .null, .null, .null, .null, .null, .null, .int 0]) (fun j hj => match j, hj with | 0, _ => rfl | 1, _ => rfl | 2, _ => rfl | 3, _ => rfl | 4, _ => rfl | 5, _ => rfl | 6, _ => rfl | 7, _ => rfl | 8, _ => rfl | 9, _ => rfl | 10, _ => rfl | 11, _ => rfl | 12, _ => rfl | 13, _ => rfl | 14, _ => rfl | 15, _ => rfl | 16, _ => rfl | 17, _ => rfl | 18, _ => rfl | 19, _ => rfl | 20, _ => rfl | 21, _ => rfl | 22, _ => rfl | 23, _ => rfl | 24, _ => rfl | 25, _ => rfl | 26, _ => rfl | 27, _ => rfl | 28, _ => rfl | 29, _ => rfl | 30, _ => rfl | 31, _ => rfl | 32, _ => rfl | 33, _ => rfl | 34, _ => rfl | 35, _ => rfl | 36, _ => rfl | 37, _ => rfl | 38, _ => rfl | 39, _ => rfl | 40, _ => rfl | 41, _ => rfl | 42, _ => rfl | 43, _ => rfl | 44, _ => rfl | n + 45, h => absurd h (by omega)) (by decide) (by decide) dL_law_8 (fun m0 hm0 m0s => ?_)
  refine g_dup C dL_law_11 rfl ?_
  refine g_cI (n := 0) (exc := [(m0, .inr (12, [.int 0, .int 0, .int 0, .null, .null, .null, .null, .null, .null, .null, .null, .null, .null, .null, .null, .null, .null, .null, .null, .null, .null, .null, .int 0, .null, .null, .null, .null, .null, .null, .null, .null, .null, .int 0, .null, .null, .int 0, .null, .null, .null, .null, .null, .null, .null, .null, .int 0]))]) (exr := [(x0, .inr (11, [.ref qa0, .ref qb0, .ref ql2, .ref ql3, .ref ql4, .ref ql5, .ref qf0, .ref qf1, .int 0, .int 0, .int 0])), (qa0, .inr (8, [.ref qa1, .ref qa2, .ref qa6, .int 0, .int 1, .int 0, .int 0, .int 0, .int 0])), (qa1, .inr (2, [.int 0, .ref (rA (c0S a30 a31) 31 0), .int 0])), (qa2, .inr (10, [.ref qa3, .ref qa4, .ref qa5, .int 0, .int 0])), (qa3, .inl (E 0, 32, .inl (fun _ => 0))), (qa4, .inl (E 0, 32, .inl (fun _ => 0))), (qa5, .inl (E 1, 32, .inl (fun _ => 0))), (qa6, .inr (3, [.ref qa7, .int 0])), (qa7, .inl (E 0, 32, .inl (fun _ => 0))), (qb0, .inr (8, [.ref qb1, .ref qb2, .ref qb6, .int 0, .int 1, .int 0, .int 0, .int 0, .int 0])), (qb1, .inr (2, [.int 0, .ref (rA (c0S a30 a31) 31 0), .int 0])), (qb2, .inr (10, [.ref qb3, .ref qb4, .ref qb5, .int 0, .int 0])), (qb3, .inl (E 0, 32, .inl (fun _ => 0))), (qb4, .inl (E 0, 32, .inl (fun _ => 0))), (qb5, .inl (E 1, 32, .inl (fun _ => 0))), (qb6, .inr (3, [.ref qb7, .int 0])), (qb7, .inl (E 0, 32, .inl (fun _ => 0))), (ql2, .inr (2, [.int 0, .ref (rA (c0S a30 a31) 31 0), .int 0])), (ql3, .inr (2, [.int 0, .ref (rA (c0S a30 a31) 31 0), .int 0])), (ql4, .inr (2, [.int 0, .ref (rA (c0S a30 a31) 31 0), .int 0])), (ql5, .inr (2, [.int 0, .ref (rA (c0S a30 a31) 31 0), .int 0])), (qf0, .inl (E 3, 3, .inr (.inr (.inr (.inr (va_up (va_up (va_up (fun _ => none) 0 (some qq00)) 1 (some qq01)) 2 (some qq02))))))), (qf1, .inl (E 3, 3, .inr (.inr (.inr (.inr (va_up (va_up (va_up (fun _ => none) 0 (some qq10)) 1 (some qq11)) 2 (some qq12))))))), (qq00, .inr (9, [.int 0, .int 0, .int 0])), (qq10, .inr (9, [.int 0, .int 0, .int 0])), (qq01, .inr (9, [.int 1, .int 0, .int 0])), (qq11, .inr (9, [.int 1, .int 0, .int 0])), (qq02, .inr (9, [.int 2, .int 0, .int 0])), (qq12, .inr (9, [.int 2, .int 0, .int 0]))]) C [] _ rfl rfl [29] [0, 1, 2, 3, 4, 5, 6, 7, 8, 9, 10, 11, 12, 13, 14, 15, 16, 17, 18, 19, 20, 21, 22, 23, 24, 25, 26, 27, 28] rfl rfl rfl rfl (by decide) (fun q h => by simp at h; exact ⟨0, _, by rw [h]; rfl⟩) (fun q h => by simp at h; rw [h]; exact hm0) (fun sz => k_mdli l (c0S a30 a31) m0 D E sz) rfl gw_1326 gw_9 gw_1324 gw_1325 rfl ⟨by decide +kernel, by decide +kernel, by decide +kernel⟩ ⟨rfl, rfl⟩ ⟨Nat.le_of_ble_eq_true rfl, Nat.le_of_ble_eq_true rfl⟩ (Nat.le_of_ble_eq_true rfl) dL_law_12 ⟨by decide, by decide⟩ (fun u hp hx => ?_)
  obtain ⟨r3, r4, r5, r6, r7, r8, r9, r10, r11, r12, r13, r14, r15, r16, r17, r18, r19, r20, r21, r23, r24, r25, r26, r27, r28, r29, r30, r31, r33, r34, r36, r37, r38, r39, r40, r41, r42, r43, rfl⟩ := hp
  have hr3 := (hx 1 _ rfl).1
  have hr4 := (hx 2 _ rfl).1
  have hr5 := (hx 3 _ rfl).1
  have hr6 := (hx 4 _ rfl).1
  have hr7 := (hx 5 _ rfl).1
  have hr8 := (hx 6 _ rfl).1
  have hr9 := (hx 7 _ rfl).1
  have hr10 := (hx 8 _ rfl).1
  have hr11 := (hx 9 _ rfl).1
  have hr12 := (hx 10 _ rfl).1
  have hr13 := (hx 11 _ rfl).1
  have hr14 := (hx 12 _ rfl).1
  have hr15 := (hx 13 _ rfl).1
  have hr16 := (hx 14 _ rfl).1
  have hr17 := (hx 15 _ rfl).1
  have hr18 := (hx 16 _ rfl).1
  have hr19 := (hx 17 _ rfl).1
  have hr20 := (hx 18 _ rfl).1
  have hr21 := (hx 19 _ rfl).1
  have hr23 := (hx 20 _ rfl).1
  have hr24 := (hx 21 _ rfl).1
  have hr25 := (hx 22 _ rfl).1
  have hr26 := (hx 23 _ rfl).1
  have hr27 := (hx 24 _ rfl).1
  have hr28 := (hx 25 _ rfl).1
  have hr29 := (hx 26 _ rfl).1
  have hr30 := (hx 27 _ rfl).1
  have hr31 := (hx 28 _ rfl).1
  have hr33 := (hx 29 _ rfl).1
  have hr34 := (hx 30 _ rfl).1
  have hr36 := (hx 31 _ rfl).1
  have hr37 := (hx 32 _ rfl).1
  have hr38 := (hx 33 _ rfl).1
  have hr39 := (hx 34 _ rfl).1
  have hr40 := (hx 35 _ rfl).1
  have hr41 := (hx 36 _ rfl).1
  have hr42 := (hx 37 _ rfl).1
  have hr43 := (hx 38 _ rfl).1
  clear hx
  refine g_ex (ex' := [(m0, .inr (12, [.int 0, .int 0, .int 0, .ref r3, .ref r4, .ref r5, .ref r6, .ref r7, .ref r8, .ref r9, .ref r10, .ref r11, .ref r12, .ref r13, .ref r14, .ref r15, .ref r16, .ref r17, .ref r18, .ref r19, .ref r20, .ref r21, .int 0, .ref r23, .ref r24, .ref r25, .ref r26, .ref r27, .ref r28, .ref r29, .ref r30, .ref r31, .int 0, .ref r33, .ref r34, .int 0, .ref r36, .ref r37, .ref r38, .ref r39, .ref r40, .ref r41, .ref r42, .ref r43, .int 0])), (r3, .inl (E 1, 2, .inl (fun _ => 0))), (r4, .inl (E 0, 2, .inl (fun _ => 0))), (r5, .inl (E 0, 2, .inl (up1 (up1 (fun _ => 0) 0 1) 1 1))), (r6, .inl (E 0, 2, .inl (fun _ => 0))), (r7, .inl (E 0, 2, .inl (fun _ => 0))), (r8, .inl (E 0, 2, .inl (fun _ => 0))), (r9, .inl (E 0, 2, .inl (fun _ => 0))), (r10, .inl (E 0, 2, .inl (fun _ => 0))), (r11, .inl (E 0, 16384, .inl (fun _ => 0))), (r12, .inl (E 0, 16384, .inl (fun _ => 0))), (r13, .inl (E 1, 16384, .inl (fun _ => 0))), (r14, .inl (E 0, 16384, .inl (fun _ => 0))), (r15, .inl (E 0, 16384, .inl (fun _ => 0))), (r16, .inl (E 0, 16384, .inl (fun _ => 0))), (r17, .inl (E 0, 16384, .inl (fun _ => 0))), (r18, .inl (E 0, 16384, .inl (fun _ => 0))), (r19, .inl (E 0, 2, .inl (fun _ => 0))), (r20, .inl (E 0, 2, .inl (fun _ => 0))), (r21, .inl (E 0, 131072, .inl (fun _ => 0))), (r23, .inl (E 1, 40, .inl (fun _ => 0))), (r24, .inl (E 1, 80, .inl (fun _ => 0))), (r25, .inl (E 0, 80, .inl (fun _ => 0))), (r26, .inl (E 0, 80, .inl (fun _ => 0))), (r27, .inl (E 0, 80, .inl (fun _ => 0))), (r28, .inl (E 0, 80, .inl (fun _ => 0))), (r29, .inl (E 1, 40, .inl (fun _ => 0))), (r30, .inl (E 0, 40, .inl (fun _ => 0))), (r31, .inl (E 0, 40, .inl (fun _ => 0))), (r33, .inl (E 0, 6, .inl (fun _ => 0))), (r34, .inl (E 0, 6, .inl (fun _ => 0))), (r36, .inl (E 0, 100, .inl (fun _ => 0))), (r37, .inl (E 0, 100, .inl (fun _ => 0))), (r38, .inl (E 0, 100, .inl (fun _ => 0))), (r39, .inl (E 0, 100, .inl (fun _ => 0))), (r40, .inl (E 0, 100, .inl (fun _ => 0))), (r41, .inl (E 0, 200, .inl (fun _ => 0))), (r42, .inl (E 1, 200, .inl (fun _ => 0))), (r43, .inl (E 1, 200, .inl (fun _ => 0))), (x0, .inr (11, [.ref qa0, .ref qb0, .ref ql2, .ref ql3, .ref ql4, .ref ql5, .ref qf0, .ref qf1, .int 0, .int 0, .int 0])), (qa0, .inr (8, [.ref qa1, .ref qa2, .ref qa6, .int 0, .int 1, .int 0, .int 0, .int 0, .int 0])), (qa1, .inr (2, [.int 0, .ref (rA (c0S a30 a31) 31 0), .int 0])), (qa2, .inr (10, [.ref qa3, .ref qa4, .ref qa5, .int 0, .int 0])), (qa3, .inl (E 0, 32, .inl (fun _ => 0))), (qa4, .inl (E 0, 32, .inl (fun _ => 0))), (qa5, .inl (E 1, 32, .inl (fun _ => 0))), (qa6, .inr (3, [.ref qa7, .int 0])), (qa7, .inl (E 0, 32, .inl (fun _ => 0))), (qb0, .inr (8, [.ref qb1, .ref qb2, .ref qb6, .int 0, .int 1, .int 0, .int 0, .int 0, .int 0])), (qb1, .inr (2, [.int 0, .ref (rA (c0S a30 a31) 31 0), .int 0])), (qb2, .inr (10, [.ref qb3, .ref qb4, .ref qb5, .int 0, .int 0])), (qb3, .inl (E 0, 32, .inl (fun _ => 0))), (qb4, .inl (E 0, 32, .inl (fun _ => 0))), (qb5, .inl (E 1, 32, .inl (fun _ => 0))), (qb6, .inr (3, [.ref qb7, .int 0])), (qb7, .inl (E 0, 32, .inl (fun _ => 0))), (ql2, .inr (2, [.int 0, .ref (rA (c0S a30 a31) 31 0), .int 0])), (ql3, .inr (2, [.int 0, .ref (rA (c0S a30 a31) 31 0), .int 0])), (ql4, .inr (2, [.int 0, .ref (rA (c0S a30 a31) 31 0), .int 0])), (ql5, .inr (2, [.int 0, .ref (rA (c0S a30 a31) 31 0), .int 0])), (qf0, .inl (E 3, 3, .inr (.inr (.inr (.inr (va_up (va_up (va_up (fun _ => none) 0 (some qq00)) 1 (some qq01)) 2 (some qq02))))))), (qf1, .inl (E 3, 3, .inr (.inr (.inr (.inr (va_up (va_up (va_up (fun _ => none) 0 (some qq10)) 1 (some qq11)) 2 (some qq12))))))), (qq00, .inr (9, [.int 0, .int 0, .int 0])), (qq10, .inr (9, [.int 0, .int 0, .int 0])), (qq01, .inr (9, [.int 1, .int 0, .int 0])), (qq11, .inr (9, [.int 1, .int 0, .int 0])), (qq02, .inr (9, [.int 2, .int 0, .int 0])), (qq12, .inr (9, [.int 2, .int 0, .int 0]))]) [0, 1, 2, 3, 4, 5, 6, 7, 8, 9, 10, 11, 12, 13, 14, 15, 16, 17, 18, 19, 20, 21, 22, 23, 24, 25, 26, 27, 28, 29, 30, 31, 32, 33, 34, 35, 36, 37, 38, 39, 40, 41, 42, 43, 44, 45, 46, 47, 48, 49, 50, 51, 52, 53, 54, 55, 56, 57, 58, 59, 60, 61, 62, 63, 64, 65, 66, 67] rfl rfl ?_
  refine g_astore_n (lv' := [(2, .ref m0), (1, .ref x0), (0, .ref b)]) C dL_law_15 rfl (by decide) rfl ?_
  refine g_iconst (v := 1) C dL_law_16 (by decide) ?_
  refine g_newa (atype := .long) (ty := .long) (t := 4) (N' := 1) (a0 := (1, .inr (.inl (fun _ => 0)))) C gw_1795 rfl rfl (fun _ h => by cases h) (fun _ => rfl) (by decide) (by decide) (by decide) (by decide) (by decide) dL_law_17 (fun o9 ho9 o9s => ?_)
  refine g_astore_n (lv' := [(3, .ref o9), (2, .ref m0), (1, .ref x0), (0, .ref b)]) C dL_law_19 rfl (by decide) rfl ?_
  refine g_iconst (v := 0) C dL_law_20 (by decide) ?_
  refine g_istore (lv' := [(4, .int 0), (3, .ref o9), (2, .ref m0), (1, .ref x0), (0, .ref b)]) C dL_law_21 (by decide) rfl ?_
  refine g_lv (lv' := [(0, .ref b), (1, .ref x0), (2, .ref m0), (3, .ref o9), (4, .int 0)]) [4, 3, 2, 1, 0] rfl ?_
  refine g_widen (k := 69) (n := 264223) (by decide) (by decide) ?_
  have hA : ∀ q ∈ ([m0, r3, r4, r5, r6, r7, r8, r9, r10, r11, r12, r13, r14, r15, r16, r17, r18, r19, r20, r21, r23, r24, r25, r26, r27, r28, r29, r30, r31, r33, r34, r36, r37, r38, r39, r40, r41, r42, r43, x0, qa0, qa1, qa2, qa3, qa4, qa5, qa6, qa7, qb0, qb1, qb2, qb3, qb4, qb5, qb6, qb7, ql2, ql3, ql4, ql5, qf0, qf1, qq00, qq10, qq01, qq11, qq02, qq12, o9] : List Nat), A q := (List.forall_mem_cons.mpr ⟨hm0, (List.forall_mem_cons.mpr ⟨hr3, (List.forall_mem_cons.mpr ⟨hr4, (List.forall_mem_cons.mpr ⟨hr5, (List.forall_mem_cons.mpr ⟨hr6, (List.forall_mem_cons.mpr ⟨hr7, (List.forall_mem_cons.mpr ⟨hr8, (List.forall_mem_cons.mpr ⟨hr9, (List.forall_mem_cons.mpr ⟨hr10, (List.forall_mem_cons.mpr ⟨hr11, (List.forall_mem_cons.mpr ⟨hr12, (List.forall_mem_cons.mpr ⟨hr13, (List.forall_mem_cons.mpr ⟨hr14, (List.forall_mem_cons.mpr ⟨hr15, (List.forall_mem_cons.mpr ⟨hr16, (List.forall_mem_cons.mpr ⟨hr17, (List.forall_mem_cons.mpr ⟨hr18, (List.forall_mem_cons.mpr ⟨hr19, (List.forall_mem_cons.mpr ⟨hr20, (List.forall_mem_cons.mpr ⟨hr21, (List.forall_mem_cons.mpr ⟨hr23, (List.forall_mem_cons.mpr ⟨hr24, (List.forall_mem_cons.mpr ⟨hr25, (List.forall_mem_cons.mpr ⟨hr26, (List.forall_mem_cons.mpr ⟨hr27, (List.forall_mem_cons.mpr ⟨hr28, (List.forall_mem_cons.mpr ⟨hr29, (List.forall_mem_cons.mpr ⟨hr30, (List.forall_mem_cons.mpr ⟨hr31, (List.forall_mem_cons.mpr ⟨hr33, (List.forall_mem_cons.mpr ⟨hr34, (List.forall_mem_cons.mpr ⟨hr36, (List.forall_mem_cons.mpr ⟨hr37, (List.forall_mem_cons.mpr ⟨hr38, (List.forall_mem_cons.mpr ⟨hr39, (List.forall_mem_cons.mpr ⟨hr40, (List.forall_mem_cons.mpr ⟨hr41, (List.forall_mem_cons.mpr ⟨hr42, (List.forall_mem_cons.mpr ⟨hr43, (List.forall_mem_cons.mpr ⟨hx0, (List.forall_mem_cons.mpr ⟨hqa0, (List.forall_mem_cons.mpr ⟨hqa1, (List.forall_mem_cons.mpr ⟨hqa2, (List.forall_mem_cons.mpr ⟨hqa3, (List.forall_mem_cons.mpr ⟨hqa4, (List.forall_mem_cons.mpr ⟨hqa5, (List.forall_mem_cons.mpr ⟨hqa6, (List.forall_mem_cons.mpr ⟨hqa7, (List.forall_mem_cons.mpr ⟨hqb0, (List.forall_mem_cons.mpr ⟨hqb1, (List.forall_mem_cons.mpr ⟨hqb2, (List.forall_mem_cons.mpr ⟨hqb3, (List.forall_mem_cons.mpr ⟨hqb4, (List.forall_mem_cons.mpr ⟨hqb5, (List.forall_mem_cons.mpr ⟨hqb6, (List.forall_mem_cons.mpr ⟨hqb7, (List.forall_mem_cons.mpr ⟨hql2, (List.forall_mem_cons.mpr ⟨hql3, (List.forall_mem_cons.mpr ⟨hql4, (List.forall_mem_cons.mpr ⟨hql5, (List.forall_mem_cons.mpr ⟨hqf0, (List.forall_mem_cons.mpr ⟨hqf1, (List.forall_mem_cons.mpr ⟨hqq00, (List.forall_mem_cons.mpr ⟨hqq10, (List.forall_mem_cons.mpr ⟨hqq01, (List.forall_mem_cons.mpr ⟨hqq11, (List.forall_mem_cons.mpr ⟨hqq02, (List.forall_mem_cons.mpr ⟨hqq12, (List.forall_mem_cons.mpr ⟨ho9, (fun _ h => absurd h List.not_mem_nil)⟩)⟩)⟩)⟩)⟩)⟩)⟩)⟩)⟩)⟩)⟩)⟩)⟩)⟩)⟩)⟩)⟩)⟩)⟩)⟩)⟩)⟩)⟩)⟩)⟩)⟩)⟩)⟩)⟩)⟩)⟩)⟩)⟩)⟩)⟩)⟩)⟩)⟩)⟩)⟩)⟩)⟩)⟩)⟩)⟩)⟩)⟩)⟩)⟩)⟩)⟩)⟩)⟩)⟩)⟩)⟩)⟩)⟩)⟩)⟩)⟩)⟩)⟩)⟩)⟩)⟩)⟩)⟩)⟩)
  exact fun H locs ls hw hs hl => kk (c1A a30 a31 [m0, r3, r4, r5, r6, r7, r8, r9, r10, r11, r12, r13, r14, r15, r16, r17, r18, r19, r20, r21, r23, r24, r25, r26, r27, r28, r29, r30, r31, r33, r34, r36, r37, r38, r39, r40, r41, r42, r43, x0, qa0, qa1, qa2, qa3, qa4, qa5, qa6, qa7, qb0, qb1, qb2, qb3, qb4, qb5, qb6, qb7, ql2, ql3, ql4, ql5, qf0, qf1, qq00, qq10, qq01, qq11, qq02, qq12, o9]) rfl rfl H locs ls (c1_adopt hA hw) hs hl
