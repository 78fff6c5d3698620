noncomputable def lstep (w : Nat) (μ : MP) (ν : NC) (a : AS) (o x1 x2 x3 x4 : Int32) : Option ((MP × NC) × AS) := if o &&& 63 = 0 then s_connect w μ ν a x1 else if o &&& 63 = 1 then s_cut w μ ν a else if o &&& 63 = 2 then s_come w μ ν a x1 x2 else if o &&& 63 = 3 then s_garble w μ ν a x1 x2 else if o &&& 63 = 4 then s_pass w μ ν a x1 else if o &&& 63 = 5 then s_isUp w μ ν a else if o &&& 63 = 6 then s_isOn w μ ν a x1 else if o &&& 63 = 7 then s_onWay w μ ν a x1 else if o &&& 63 = 8 then s_sent w μ ν a x1 else if o &&& 63 = 9 then s_expected w μ ν a x1 else if o &&& 63 = 10 then s_held w μ ν a x1 else if o &&& 63 = 11 then s_fields w μ ν a x1 x2 else if o &&& 63 = 12 then s_tagAt w μ ν a x1 x2 x3 else if o &&& 63 = 13 then s_valueAt w μ ν a x1 x2 x3 else if o &&& 63 = 14 then s_order w μ ν a x1 x2 x3 else if o &&& 63 = 15 then s_cancel w μ ν a x1 else if o &&& 63 = 16 then s_replace w μ ν a x1 x2 x3 else if o &&& 63 = 17 then s_stateOf w μ ν a x1 else if o &&& 63 = 18 then s_isLeftOut w μ ν a x1 else if o &&& 63 = 19 then s_underWay w μ ν a x1 else if o &&& 63 = 20 then s_quote w μ ν a x1 x2 x3 x4 else if o &&& 63 = 21 then s_quoted w μ ν a x1 x2 else if o &&& 63 = 22 then s_bust w μ ν a x1 else if o &&& 63 = 23 then s_correct w μ ν a x1 x2 else if o &&& 63 = 24 then s_executions w μ ν a else if o &&& 63 = 25 then s_endDay w μ ν a else if o &&& 63 = 26 then s_orders w μ ν a else if o &&& 63 = 27 then s_left w μ ν a x1 x2 else if o &&& 63 = 28 then s_done w μ ν a x1 x2 else if o &&& 63 = 29 then s_doneByLog w μ ν a x1 x2 else if o &&& 63 = 30 then s_out w μ ν a x1 x2 else if o &&& 63 = 31 then s_venues w μ ν a x1 else if o &&& 63 = 32 then s_total w μ ν a x1 x2 x3 x4 else if o &&& 63 = 33 then s_agree w μ ν a else some ((μ, ν), a)
set_option maxHeartbeats 4000000 in
set_option maxRecDepth 100000 in
theorem w_step {p : Program} {l : Launch} {e : Env} {s : State} {m : MethodId} {args : Array Value} {below : List Frame} {meth : Method} {c : Code} {D : va_G} {E : Nat → ClassId} {A : Nat → Prop} {Q : State → Prop} {B : Nat × (Nat → Nat)} {a30 a31 : Nat} {μ : MP} {ν : NC} {a : AS} {Ad : Nat → Nat → Nat} {w : Nat} {b L : Nat} {xs : Nat → Int32} {cells slots : Nat} (C : cx p s m args meth c D E A cL_law 7 "TradeLineLaw") (hEv : eV a30 a31 B A s s.heap) (hN : vN s) (hl : l.stackTraces = false) (hI : lwI ν) (h3 : Ad 30 0 = a30 ∧ Ad 31 0 = a31) (hX : va_X b L xs s s.heap) (hbl : b < s.heap.size) (hbA : ¬ A b) {i o x1 x2 x3 x4 : Int32} (q0 : vp_in i L ∧ xs i.toNatClampNeg = o) (q1 : vp_in (i + 1) L ∧ xs (i + 1).toNatClampNeg = x1) (q2 : vp_in (i + 2) L ∧ xs (i + 2).toNatClampNeg = x2) (q3 : vp_in (i + 3) L ∧ xs (i + 3).toNatClampNeg = x3) (q4 : vp_in (i + 4) L ∧ xs (i + 4).toNatClampNeg = x4) {S : (MP × NC) × AS} (h : lstep w μ ν a o x1 x2 x3 x4 = some S) (hf : cells + (kc S.1.2 - kc ν) + 1 ≤ 299000 ∧ slots + (ks S.1.2 - ks ν) + 6 ≤ 3090000) (kk : ∀ A1, mn ν S.1.2 → kp ν Ad A1 → G p l e room_1 s m args below meth c D E A 7 Q (zS S.1.1 S.1.2 S.2 A1) [] (cells + (kc S.1.2 - kc ν) + 1) (slots + (ks S.1.2 - ks ν) + 6) 2215 [(0, .ref b), (1, .ref (A1 0 0)), (2, .ref (A1 40 0)), (3, .ref (A1 90 0)), (4, .int i)] []) : G p l e room_1 s m args below meth c D E A 7 Q (zS μ ν a Ad) [] (cells) (slots) 32 [(0, .ref b), (1, .ref (Ad 0 0)), (2, .ref (Ad 40 0)), (3, .ref (Ad 90 0)), (4, .int i)] [] := by
  refine g_aload_n C dL_law_32 rfl 0 rfl ?_
  refine g_iload C dL_law_33 4 rfl ?_
  refine g_ialdX C hX hbl hbA q0.1 dL_law_35 ?_
  rw [q0.2]
  refine g_bipush (v := 63) C dL_law_36 (by decide) ?_
  refine g_iand C dL_law_38 ?_
  unfold lstep at h
  by_cases c0 : o &&& 63 = 0
  · replace h := (if_pos c0).symm.trans h
    refine g_tswI (v := 0) (off := 149) (tgt := 188) C dL_law_39 c0 (by decide) (by decide) (by decide) ?_
    exact w_connect C hEv hN hl hI h3 hX hbl hbA q1 h hf kk
  replace h := (if_neg c0).symm.trans h
  by_cases c1 : o &&& 63 = 1
  · replace h := (if_pos c1).symm.trans h
    refine g_tswI (v := 1) (off := 201) (tgt := 240) C dL_law_39 c1 (by decide) (by decide) (by decide) ?_
    exact w_cut C hEv hN hl hI h3 hX hbl hbA h hf kk
  replace h := (if_neg c1).symm.trans h
  by_cases c2 : o &&& 63 = 2
  · replace h := (if_pos c2).symm.trans h
    refine g_tswI (v := 2) (off := 245) (tgt := 284) C dL_law_39 c2 (by decide) (by decide) (by decide) ?_
    exact w_come C hEv hN hl hI h3 hX hbl hbA q1 q2 h hf kk
  replace h := (if_neg c2).symm.trans h
  by_cases c3 : o &&& 63 = 3
  · replace h := (if_pos c3).symm.trans h
    refine g_tswI (v := 3) (off := 313) (tgt := 352) C dL_law_39 c3 (by decide) (by decide) (by decide) ?_
    exact w_garble C hEv hN hl hI h3 hX hbl hbA q1 q2 h hf kk
  replace h := (if_neg c3).symm.trans h
  by_cases c4 : o &&& 63 = 4
  · replace h := (if_pos c4).symm.trans h
    refine g_tswI (v := 4) (off := 381) (tgt := 420) C dL_law_39 c4 (by decide) (by decide) (by decide) ?_
    exact w_pass C hEv hN hl hI h3 hX hbl hbA q1 h hf kk
  replace h := (if_neg c4).symm.trans h
  by_cases c5 : o &&& 63 = 5
  · replace h := (if_pos c5).symm.trans h
    refine g_tswI (v := 5) (off := 437) (tgt := 476) C dL_law_39 c5 (by decide) (by decide) (by decide) ?_
    exact w_isUp C hEv hN hl hI h3 hX hbl hbA h hf kk
  replace h := (if_neg c5).symm.trans h
  by_cases c6 : o &&& 63 = 6
  · replace h := (if_pos c6).symm.trans h
    refine g_tswI (v := 6) (off := 450) (tgt := 489) C dL_law_39 c6 (by decide) (by decide) (by decide) ?_
    exact w_isOn C hEv hN hl hI h3 hX hbl hbA q1 h hf kk
  replace h := (if_neg c6).symm.trans h
  by_cases c7 : o &&& 63 = 7
  · replace h := (if_pos c7).symm.trans h
    refine g_tswI (v := 7) (off := 513) (tgt := 552) C dL_law_39 c7 (by decide) (by decide) (by decide) ?_
    exact w_onWay C hEv hN hl hI h3 hX hbl hbA q1 h hf kk
  replace h := (if_neg c7).symm.trans h
  by_cases c8 : o &&& 63 = 8
  · replace h := (if_pos c8).symm.trans h
    refine g_tswI (v := 8) (off := 569) (tgt := 608) C dL_law_39 c8 (by decide) (by decide) (by decide) ?_
    exact w_sent C hEv hN hl hI h3 hX hbl hbA q1 h hf kk
  replace h := (if_neg c8).symm.trans h
  by_cases c9 : o &&& 63 = 9
  · replace h := (if_pos c9).symm.trans h
    refine g_tswI (v := 9) (off := 625) (tgt := 664) C dL_law_39 c9 (by decide) (by decide) (by decide) ?_
    exact w_expected C hEv hN hl hI h3 hX hbl hbA q1 h hf kk
  replace h := (if_neg c9).symm.trans h
  by_cases c10 : o &&& 63 = 10
  · replace h := (if_pos c10).symm.trans h
    refine g_tswI (v := 10) (off := 681) (tgt := 720) C dL_law_39 c10 (by decide) (by decide) (by decide) ?_
    exact w_held C hEv hN hl hI h3 hX hbl hbA q1 h hf kk
  replace h := (if_neg c10).symm.trans h
  by_cases c11 : o &&& 63 = 11
  · replace h := (if_pos c11).symm.trans h
    refine g_tswI (v := 11) (off := 737) (tgt := 776) C dL_law_39 c11 (by decide) (by decide) (by decide) ?_
    exact w_fields C hEv hN hl hI h3 hX hbl hbA q1 q2 h hf kk
  replace h := (if_neg c11).symm.trans h
  by_cases c12 : o &&& 63 = 12
  · replace h := (if_pos c12).symm.trans h
    refine g_tswI (v := 12) (off := 805) (tgt := 844) C dL_law_39 c12 (by decide) (by decide) (by decide) ?_
    exact w_tagAt C hEv hN hl hI h3 hX hbl hbA q1 q2 q3 h hf kk
  replace h := (if_neg c12).symm.trans h
  by_cases c13 : o &&& 63 = 13
  · replace h := (if_pos c13).symm.trans h
    refine g_tswI (v := 13) (off := 885) (tgt := 924) C dL_law_39 c13 (by decide) (by decide) (by decide) ?_
    exact w_valueAt C hEv hN hl hI h3 hX hbl hbA q1 q2 q3 h hf kk
  replace h := (if_neg c13).symm.trans h
  by_cases c14 : o &&& 63 = 14
  · replace h := (if_pos c14).symm.trans h
    refine g_tswI (v := 14) (off := 965) (tgt := 1004) C dL_law_39 c14 (by decide) (by decide) (by decide) ?_
    exact w_order C hEv hN hl hI h3 hX hbl hbA q1 q2 q3 h hf kk
  replace h := (if_neg c14).symm.trans h
  by_cases c15 : o &&& 63 = 15
  · replace h := (if_pos c15).symm.trans h
    refine g_tswI (v := 15) (off := 1061) (tgt := 1100) C dL_law_39 c15 (by decide) (by decide) (by decide) ?_
    exact w_cancel C hEv hN hl hI h3 hX hbl hbA q1 h hf kk
  replace h := (if_neg c15).symm.trans h
  by_cases c16 : o &&& 63 = 16
  · replace h := (if_pos c16).symm.trans h
    refine g_tswI (v := 16) (off := 1117) (tgt := 1156) C dL_law_39 c16 (by decide) (by decide) (by decide) ?_
    exact w_replace C hEv hN hl hI h3 hX hbl hbA q1 q2 q3 h hf kk
  replace h := (if_neg c16).symm.trans h
  by_cases c17 : o &&& 63 = 17
  · replace h := (if_pos c17).symm.trans h
    refine g_tswI (v := 17) (off := 1197) (tgt := 1236) C dL_law_39 c17 (by decide) (by decide) (by decide) ?_
    exact w_stateOf C hEv hN hl hI h3 hX hbl hbA q1 h hf kk
  replace h := (if_neg c17).symm.trans h
  by_cases c18 : o &&& 63 = 18
  · replace h := (if_pos c18).symm.trans h
    refine g_tswI (v := 18) (off := 1253) (tgt := 1292) C dL_law_39 c18 (by decide) (by decide) (by decide) ?_
    exact w_isLeftOut C hEv hN hl hI h3 hX hbl hbA q1 h hf kk
  replace h := (if_neg c18).symm.trans h
  by_cases c19 : o &&& 63 = 19
  · replace h := (if_pos c19).symm.trans h
    refine g_tswI (v := 19) (off := 1316) (tgt := 1355) C dL_law_39 c19 (by decide) (by decide) (by decide) ?_
    exact w_underWay C hEv hN hl hI h3 hX hbl hbA q1 h hf kk
  replace h := (if_neg c19).symm.trans h
  by_cases c20 : o &&& 63 = 20
  · replace h := (if_pos c20).symm.trans h
    refine g_tswI (v := 20) (off := 1372) (tgt := 1411) C dL_law_39 c20 (by decide) (by decide) (by decide) ?_
    exact w_quote C hEv hN hl hI h3 hX hbl hbA q1 q2 q3 q4 h hf kk
  replace h := (if_neg c20).symm.trans h
  by_cases c21 : o &&& 63 = 21
  · replace h := (if_pos c21).symm.trans h
    refine g_tswI (v := 21) (off := 1480) (tgt := 1519) C dL_law_39 c21 (by decide) (by decide) (by decide) ?_
    exact w_quoted C hEv hN hl hI h3 hX hbl hbA q1 q2 h hf kk
  replace h := (if_neg c21).symm.trans h
  by_cases c22 : o &&& 63 = 22
  · replace h := (if_pos c22).symm.trans h
    refine g_tswI (v := 22) (off := 1564) (tgt := 1603) C dL_law_39 c22 (by decide) (by decide) (by decide) ?_
    exact w_bust C hEv hN hl hI h3 hX hbl hbA q1 h hf kk
  replace h := (if_neg c22).symm.trans h
  by_cases c23 : o &&& 63 = 23
  · replace h := (if_pos c23).symm.trans h
    refine g_tswI (v := 23) (off := 1620) (tgt := 1659) C dL_law_39 c23 (by decide) (by decide) (by decide) ?_
    exact w_correct C hEv hN hl hI h3 hX hbl hbA q1 q2 h hf kk
  replace h := (if_neg c23).symm.trans h
  by_cases c24 : o &&& 63 = 24
  · replace h := (if_pos c24).symm.trans h
    refine g_tswI (v := 24) (off := 1688) (tgt := 1727) C dL_law_39 c24 (by decide) (by decide) (by decide) ?_
    exact w_executions C hEv hN hl hI h3 hX hbl hbA h hf kk
  replace h := (if_neg c24).symm.trans h
  by_cases c25 : o &&& 63 = 25
  · replace h := (if_pos c25).symm.trans h
    refine g_tswI (v := 25) (off := 1701) (tgt := 1740) C dL_law_39 c25 (by decide) (by decide) (by decide) ?_
    exact w_endDay C hEv hN hl hI h3 hX hbl hbA h hf kk
  replace h := (if_neg c25).symm.trans h
  by_cases c26 : o &&& 63 = 26
  · replace h := (if_pos c26).symm.trans h
    refine g_tswI (v := 26) (off := 1714) (tgt := 1753) C dL_law_39 c26 (by decide) (by decide) (by decide) ?_
    exact w_orders C hEv hN hl hI h3 hX hbl hbA h hf kk
  replace h := (if_neg c26).symm.trans h
  by_cases c27 : o &&& 63 = 27
  · replace h := (if_pos c27).symm.trans h
    refine g_tswI (v := 27) (off := 1727) (tgt := 1766) C dL_law_39 c27 (by decide) (by decide) (by decide) ?_
    exact w_left C hEv hN hl hI h3 hX hbl hbA q1 q2 h hf kk
  replace h := (if_neg c27).symm.trans h
  by_cases c28 : o &&& 63 = 28
  · replace h := (if_pos c28).symm.trans h
    refine g_tswI (v := 28) (off := 1795) (tgt := 1834) C dL_law_39 c28 (by decide) (by decide) (by decide) ?_
    exact w_done C hEv hN hl hI h3 hX hbl hbA q1 q2 h hf kk
  replace h := (if_neg c28).symm.trans h
  by_cases c29 : o &&& 63 = 29
  · replace h := (if_pos c29).symm.trans h
    refine g_tswI (v := 29) (off := 1863) (tgt := 1902) C dL_law_39 c29 (by decide) (by decide) (by decide) ?_
    exact w_doneByLog C hEv hN hl hI h3 hX hbl hbA q1 q2 h hf kk
  replace h := (if_neg c29).symm.trans h
  by_cases c30 : o &&& 63 = 30
  · replace h := (if_pos c30).symm.trans h
    refine g_tswI (v := 30) (off := 1931) (tgt := 1970) C dL_law_39 c30 (by decide) (by decide) (by decide) ?_
    exact w_out C hEv hN hl hI h3 hX hbl hbA q1 q2 h hf kk
  replace h := (if_neg c30).symm.trans h
  by_cases c31 : o &&& 63 = 31
  · replace h := (if_pos c31).symm.trans h
    refine g_tswI (v := 31) (off := 1999) (tgt := 2038) C dL_law_39 c31 (by decide) (by decide) (by decide) ?_
    exact w_venues C hEv hN hl hI h3 hX hbl hbA q1 h hf kk
  replace h := (if_neg c31).symm.trans h
  by_cases c32 : o &&& 63 = 32
  · replace h := (if_pos c32).symm.trans h
    refine g_tswI (v := 32) (off := 2055) (tgt := 2094) C dL_law_39 c32 (by decide) (by decide) (by decide) ?_
    exact w_total C hEv hN hl hI h3 hX hbl hbA q1 q2 q3 q4 h hf kk
  replace h := (if_neg c32).symm.trans h
  by_cases c33 : o &&& 63 = 33
  · replace h := (if_pos c33).symm.trans h
    refine g_tswI (v := 33) (off := 2163) (tgt := 2202) C dL_law_39 c33 (by decide) (by decide) (by decide) ?_
    exact w_agree C hEv hN hl hI h3 hX hbl hbA h hf kk
  replace h := (if_neg c33).symm.trans h
  obtain rfl := Option.some.inj h
  refine g_tswO (tgt := 2215) C dL_law_39 (Classical.byContradiction fun hh => ?_) (by decide) ?_
  · have d0 := ne_i c0 (show (0 : Int32).toInt = 0 by decide); have d1 := ne_i c1 (show (1 : Int32).toInt = 1 by decide); have d2 := ne_i c2 (show (2 : Int32).toInt = 2 by decide); have d3 := ne_i c3 (show (3 : Int32).toInt = 3 by decide); have d4 := ne_i c4 (show (4 : Int32).toInt = 4 by decide); have d5 := ne_i c5 (show (5 : Int32).toInt = 5 by decide); have d6 := ne_i c6 (show (6 : Int32).toInt = 6 by decide); have d7 := ne_i c7 (show (7 : Int32).toInt = 7 by decide); have d8 := ne_i c8 (show (8 : Int32).toInt = 8 by decide); have d9 := ne_i c9 (show (9 : Int32).toInt = 9 by decide); have d10 := ne_i c10 (show (10 : Int32).toInt = 10 by decide); have d11 := ne_i c11 (show (11 : Int32).toInt = 11 by decide); have d12 := ne_i c12 (show (12 : Int32).toInt = 12 by decide); have d13 := ne_i c13 (show (13 : Int32).toInt = 13 by decide); have d14 := ne_i c14 (show (14 : Int32).toInt = 14 by decide); have d15 := ne_i c15 (show (15 : Int32).toInt = 15 by decide); have d16 := ne_i c16 (show (16 : Int32).toInt = 16 by decide); have d17 := ne_i c17 (show (17 : Int32).toInt = 17 by decide); have d18 := ne_i c18 (show (18 : Int32).toInt = 18 by decide); have d19 := ne_i c19 (show (19 : Int32).toInt = 19 by decide); have d20 := ne_i c20 (show (20 : Int32).toInt = 20 by decide); have d21 := ne_i c21 (show (21 : Int32).toInt = 21 by decide); have d22 := ne_i c22 (show (22 : Int32).toInt = 22 by decide); have d23 := ne_i c23 (show (23 : Int32).toInt = 23 by decide); have d24 := ne_i c24 (show (24 : Int32).toInt = 24 by decide); have d25 := ne_i c25 (show (25 : Int32).toInt = 25 by decide); have d26 := ne_i c26 (show (26 : Int32).toInt = 26 by decide); have d27 := ne_i c27 (show (27 : Int32).toInt = 27 by decide); have d28 := ne_i c28 (show (28 : Int32).toInt = 28 by decide); have d29 := ne_i c29 (show (29 : Int32).toInt = 29 by decide); have d30 := ne_i c30 (show (30 : Int32).toInt = 30 by decide); have d31 := ne_i c31 (show (31 : Int32).toInt = 31 by decide); have d32 := ne_i c32 (show (32 : Int32).toInt = 32 by decide); have d33 := ne_i c33 (show (33 : Int32).toInt = 33 by decide)
    omega
  · have hf1 : cells + (kc ν - kc ν) + 1 ≤ 299000 := hf.1; have hf2 : slots + (ks ν - ks ν) + 6 ≤ 3090000 := hf.2
    refine g_widen (k := cells + (kc ν - kc ν) + 1) (n := slots + (ks ν - ks ν) + 6) (by omega) (by omega) ?_
    exact kk Ad (mn_rfl _) (kp_rfl _ _)
/-- k rounds from place n on: each step is there, and counts and costs keep their bounds -/
def lok (w : Nat) (xs : Nat → Int32) : Nat → Nat → (MP × NC) × AS → Prop
  | 0, _, _ => True
  | k + 1, n, S => ∃ S', lstep w S.1.1 S.1.2 S.2 (xs n) (xs (n + 1)) (xs (n + 2)) (xs (n + 3)) (xs (n + 4)) = some S' ∧ kc S'.1.2 ≤ 280000 ∧ ks S'.1.2 ≤ 2800000 ∧ lok w xs k (n + 5) S'
theorem in_nI {n L : Nat} (j : Nat) (h : n + j < L) (hL : L ≤ 2560) {xs : Nat → Int32} : vp_in (nI n + nI j) L ∧ xs (nI n + nI j).toNatClampNeg = xs (n + j) := by
  rw [nI_add]
  exact ⟨nI_in h (by omega), by rw [nI_clamp (by omega)]⟩
theorem gt_end {n L : Nat} (hn : n ≤ 2560) (hL : L ≤ 2560) : nI L - 5 < nI n ↔ L < n + 5 := by
  rw [Int32.lt_iff_toInt_lt, show (5 : Int32) = nI 5 from rfl, pk_sub_toInt (by omega) (by omega), nI_toInt (by omega)]
  omega
set_option maxHeartbeats 4000000 in
set_option maxRecDepth 100000 in
theorem w_loop {p : Program} {l : Launch} {e : Env} {s : State} {m : MethodId} {args : Array Value} {below : List Frame} {meth : Method} {c : Code} {D : va_G} {E : Nat → ClassId} {A : Nat → Prop} {Q : State → Prop} {B : Nat × (Nat → Nat)} {a30 a31 : Nat} {w : Nat} {b L : Nat} {xs : Nat → Int32} (C : cx p s m args meth c D E A cL_law 7 "TradeLineLaw") (hEv : eV a30 a31 B A s s.heap) (hN : vN s) (hl : l.stackTraces = false) (hX : va_X b L xs s s.heap) (hbl : b < s.heap.size) (hbA : ¬ A b) {c0 s0 : Nat} (hL : L ≤ 2560) (hc0 : c0 ≤ 100) (hs0 : s0 ≤ 280000) (kx : ∀ (μ : MP) (ν : NC) (a : AS) (Ad : Nat → Nat → Nat) (cells slots : Nat) (i : Int32), cells ≤ 299000 → slots ≤ 3090000 → G p l e room_1 s m args below meth c D E A 7 Q (zS μ ν a Ad) [] (cells) (slots) 2221 [(0, .ref b), (1, .ref (Ad 0 0)), (2, .ref (Ad 40 0)), (3, .ref (Ad 90 0)), (4, .int i)] []) : ∀ (k n j : Nat) (μ : MP) (ν : NC) (a : AS) (Ad : Nat → Nat → Nat), lwI ν → Ad 30 0 = a30 ∧ Ad 31 0 = a31 → n + 5 * k ≤ L → L < n + 5 * k + 5 → n = 5 * j → kc ν ≤ 280000 → ks ν ≤ 2800000 → lok w xs k n ((μ, ν), a) → G p l e room_1 s m args below meth c D E A 7 Q (zS μ ν a Ad) [] (c0 + kc ν + j) (s0 + ks ν + 6 * j) 23 [(0, .ref b), (1, .ref (Ad 0 0)), (2, .ref (Ad 40 0)), (3, .ref (Ad 90 0)), (4, .int (nI n))] [] := by
  intro k
  induction k with
  | zero =>
    intro n j μ ν a Ad hI h3 h1 h2 hj hk1 hk2 ho
    refine g_iload C dL_law_23 4 rfl ?_
    refine g_aload_n C dL_law_25 rfl 0 rfl ?_
    refine g_alenX (v := nI L) C hX hbl hbA rfl dL_law_26 ?_
    refine g_iconst (v := 5) C dL_law_27 (by decide) ?_
    refine g_isub C dL_law_28 ?_
    refine g_icmp_gt (tgt := 2221) C dL_law_29 (by decide) (fun _ => ?_) (fun cc => absurd ((gt_end (by omega) hL).mpr (by omega)) cc)
    exact kx μ ν a Ad _ _ _ (by omega) (by omega)
  | succ k ih =>
    intro n j μ ν a Ad hI h3 h1 h2 hj hk1 hk2 ho
    obtain ⟨S, hS, hb1, hb2, hr⟩ := ho
    refine g_iload C dL_law_23 4 rfl ?_
    refine g_aload_n C dL_law_25 rfl 0 rfl ?_
    refine g_alenX (v := nI L) C hX hbl hbA rfl dL_law_26 ?_
    refine g_iconst (v := 5) C dL_law_27 (by decide) ?_
    refine g_isub C dL_law_28 ?_
    refine g_icmp_gt (tgt := 2221) C dL_law_29 (by decide) (fun cc => absurd ((gt_end (by omega) hL).mp cc) (by omega)) (fun _ => ?_)
    refine w_step C hEv hN hl hI h3 hX hbl hbA ⟨nI_in (show n < L by omega) (by omega), by rw [nI_clamp (by omega)]⟩ (in_nI 1 (by omega) hL) (in_nI 2 (by omega) hL) (in_nI 3 (by omega) hL) (in_nI 4 (by omega) hL) hS ⟨by omega, by omega⟩ (fun A1 hm hk => ?_)
    refine g_iinc (v := nI (n + 5)) (lv' := [(4, .int (nI (n + 5))), (0, .ref b), (1, .ref (A1 0 0)), (2, .ref (A1 40 0)), (3, .ref (A1 90 0))]) C dL_law_2215 4 rfl (nI_add n 5) (by decide) rfl ?_
    refine g_goto (tgt := 23) C dL_law_2218 (by decide) ?_
    refine g_lv (lv' := [(0, .ref b), (1, .ref (A1 0 0)), (2, .ref (A1 40 0)), (3, .ref (A1 90 0)), (4, .int (nI (n + 5)))]) [1, 2, 3, 4, 0] rfl ?_
    have g1 := hm.2.1; have g2 := hm.2.2.1
    refine g_widen (k := c0 + kc S.1.2 + (j + 1)) (n := s0 + ks S.1.2 + 6 * (j + 1)) (by omega) (by omega) ?_
    exact ih (n + 5) (j + 1) S.1.1 S.1.2 S.2 A1 (lwI_mn hI hm) ⟨(hk.2.1 0).trans h3.1, (hk.2.2 0).trans h3.2⟩ (by omega) (by omega) (by omega) hb1 hb2 hr
