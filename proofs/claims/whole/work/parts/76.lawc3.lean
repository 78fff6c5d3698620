noncomputable def s_left (w : Nat) (μ : MP) (ν : NC) (a : AS) (x1 : Int32) (x2 : Int32) : Option ((MP × NC) × AS) := (f_X8_left w μ ν x1 x2).bind fun r => (f_X9_left w a x1 x2).bind fun q => (f_X9_thrown w q.1).bind fun t => lwq true [(1, 1)] μ ν (r.1, ((μ, ν), r.2)) q t
set_option maxHeartbeats 4000000 in
set_option maxRecDepth 100000 in
theorem w_left {p : Program} {l : Launch} {e : Env} {s : State} {m : MethodId} {args : Array Value} {below : List Frame} {meth : Method} {c : Code} {D : va_G} {E : Nat → ClassId} {A : Nat → Prop} {Q : State → Prop} {B : Nat × (Nat → Nat)} {a30 a31 : Nat} {μ : MP} {ν : NC} {a : AS} {Ad : Nat → Nat → Nat} {w : Nat} {b L : Nat} {xs : Nat → Int32} {cells slots : Nat} (C : cx p s m args meth c D E A cL_law 7 "TradeLineLaw") (hEv : eV a30 a31 B A s s.heap) (hN : vN s) (hl : l.stackTraces = false) (hI : lwI ν) (h3 : Ad 30 0 = a30 ∧ Ad 31 0 = a31) (hX : va_X b L xs s s.heap) (hbl : b < s.heap.size) (hbA : ¬ A b) {i x1 x2 : Int32} (q1 : vp_in (i + 1) L ∧ xs (i + 1).toNatClampNeg = x1) (q2 : vp_in (i + 2) L ∧ xs (i + 2).toNatClampNeg = x2) {S : (MP × NC) × AS} (h : s_left w μ ν a x1 x2 = some S) (hf : cells + (kc S.1.2 - kc ν) + 1 ≤ 299000 ∧ slots + (ks S.1.2 - ks ν) + 6 ≤ 3090000) (kk : ∀ A1, mn ν S.1.2 → kp ν Ad A1 → G p l e room_1 s m args below meth c D E A 7 Q (zS S.1.1 S.1.2 S.2 A1) [] (cells + (kc S.1.2 - kc ν) + 1) (slots + (ks S.1.2 - ks ν) + 6) 2215 [(0, .ref b), (1, .ref (A1 0 0)), (2, .ref (A1 40 0)), (3, .ref (A1 90 0)), (4, .int i)] []) : G p l e room_1 s m args below meth c D E A 7 Q (zS μ ν a Ad) [] (cells) (slots) 1766 [(0, .ref b), (1, .ref (Ad 0 0)), (2, .ref (Ad 40 0)), (3, .ref (Ad 90 0)), (4, .int i)] [] := by
  unfold s_left at h
  obtain ⟨r, hr, h⟩ := bind_of h
  obtain ⟨q, hq, h⟩ := bind_of h
  obtain ⟨t, ht, h⟩ := bind_of h
  rcases lwq_t h with ⟨e0, e1, e2, rfl⟩ | ⟨ec, rfl⟩
  · replace e0 : r.1 = 0 := e0
    have hf1 : cells + (kc ν - kc ν) + 1 ≤ 299000 := hf.1
    have hf2 : slots + (ks ν - ks ν) + 6 ≤ 3090000 := hf.2
    refine g_aload_n C dL_law_1766 rfl 1 rfl ?_
    refine g_aload_n C dL_law_1767 rfl 0 rfl ?_
    refine g_iload C dL_law_1768 4 rfl ?_
    refine g_iconst (v := 1) C dL_law_1770 (by decide) ?_
    refine g_iadd C dL_law_1771 ?_
    refine g_ialdX C hX hbl hbA q1.1 dL_law_1772 ?_
    rw [q1.2]
    refine g_aload_n C dL_law_1773 rfl 0 rfl ?_
    refine g_iload C dL_law_1774 4 rfl ?_
    refine g_iconst (v := 2) C dL_law_1776 (by decide) ?_
    refine g_iadd C dL_law_1777 ?_
    refine g_ialdX C hX hbl hbA q2.1 dL_law_1778 ?_
    rw [q2.2]
    refine g_aload_n C dL_law_1779 rfl 3 rfl ?_
    refine g_cSh (n := 4) (exr := []) C hEv hN h3 [_, _, _, _] _ rfl rfl [] rfl rfl (fun sz => r_L_left l B μ ν a Ad w x1 x2 r.2 (thr0 hr e0) hI.1 hI.2.1 D E sz) rfl gh_left gw_0 gw_1261 gw_1262 ⟨by decide +kernel, by decide +kernel, by decide +kernel⟩ ⟨rfl, rfl⟩ ⟨Nat.le_of_ble_eq_true rfl, Nat.le_of_ble_eq_true rfl⟩ (Nat.le_of_ble_eq_true rfl) dL_law_1780 (rm_hf (by omega) (by omega)) (fun r8 u hp hx => ?_)
    obtain ⟨er8, rfl⟩ := hp
    rw [er8]
    try dsimp only [List.nil_append]
    refine g_istore (lv' := [(5, .int 0), (0, .ref b), (1, .ref (Ad 0 0)), (2, .ref (Ad 40 0)), (3, .ref (Ad 90 0)), (4, .int i)]) C dL_law_1783 (by decide) rfl ?_
    refine g_aload_n C dL_law_1785 rfl 3 rfl ?_
    refine g_aload_n C dL_law_1786 rfl 1 rfl ?_
    refine g_iload C dL_law_1787 5 rfl ?_
    refine g_iconst (v := 1) C dL_law_1789 (by decide) ?_
    refine g_iadd C dL_law_1790 ?_
    refine g_ialdX C hX hbl hbA q1.1 dL_law_1791 ?_
    rw [q1.2]
    refine g_aload_n C dL_law_1792 rfl 1 rfl ?_
    refine g_iload C dL_law_1793 5 rfl ?_
    refine g_iconst (v := 2) C dL_law_1795 (by decide) ?_
    refine g_iadd C dL_law_1796 ?_
    refine g_ialdX C hX hbl hbA q2.1 dL_law_1797 ?_
    rw [q2.2]
    refine g_cVi (n := 2) (exc := []) (exr := []) C [_, _] _ rfl rfl [] [] rfl rfl rfl rfl (fun _ _ h => absurd h (by simp)) (fun _ h => absurd h (by simp)) (fun _ h => absurd h (by simp)) (fun sz => zk_left l (up3 μ.1 90 0 0 r.2, μ.2) ν a Ad hI.2.2 w x1 x2 q hq D E sz) rfl gw_1754 gw_9 gw_1751 gw_1752 gw_1753 ⟨by decide +kernel, by decide +kernel, by decide +kernel⟩ ⟨rfl, rfl⟩ ⟨Nat.le_of_ble_eq_true rfl, Nat.le_of_ble_eq_true rfl⟩ (rcvT ⟨hI.2.2.1, fun e => absurd e (by decide)⟩ rfl rfl rfl) (Nat.le_of_ble_eq_true rfl) dL_law_1798 (rm_hf (by omega) (by omega)) (fun r9 u hp hx => ?_)
    obtain ⟨er9, rfl⟩ := hp
    rw [er9]
    try dsimp only [List.nil_append]
    refine g_istore (lv' := [(6, .int q.2), (5, .int 0), (0, .ref b), (1, .ref (Ad 0 0)), (2, .ref (Ad 40 0)), (3, .ref (Ad 90 0)), (4, .int i)]) C dL_law_1801 (by decide) rfl ?_
    refine g_aload_n C dL_law_1803 rfl 4 rfl ?_
    refine g_cVi (n := 0) (exc := []) (exr := []) C [] _ rfl rfl [] [] rfl rfl rfl rfl (fun _ _ h => absurd h (by simp)) (fun _ h => absurd h (by simp)) (fun _ h => absurd h (by simp)) (fun sz => zk_thrown l (up3 μ.1 90 0 0 r.2, μ.2) ν q.1 Ad hI.2.2 w  t ht D E sz) rfl gw_1468 gw_9 gw_1465 gw_1466 gw_1467 ⟨by decide +kernel, by decide +kernel, by decide +kernel⟩ ⟨rfl, rfl⟩ ⟨Nat.le_of_ble_eq_true rfl, Nat.le_of_ble_eq_true rfl⟩ (rcvT ⟨hI.2.2.1, fun e => absurd e (by decide)⟩ rfl rfl rfl) (Nat.le_of_ble_eq_true rfl) dL_law_1804 (rm_hf (by omega) (by omega)) (fun r9 u hp hx => ?_)
    obtain ⟨er9, rfl⟩ := hp
    rw [er9]
    try dsimp only [List.nil_append]
    refine g_iload C dL_law_1807 1 rfl ?_
    refine g_icmp_eq (tgt := 1814) C dL_law_1809 (by decide) (fun c1 => ?_) (fun c1 => absurd e1 c1)
    refine g_iload C dL_law_1814 1 rfl ?_
    refine g_if_ne (tgt := 1831) C dL_law_1816 (by decide) (fun c2 => absurd rfl c2) (fun c2 => ?_)
    refine g_aload_n C dL_law_1819 rfl 5 rfl ?_
    refine g_iconst (v := 0) C dL_law_1820 (by decide) ?_
    refine g_lald (μ := (up3 μ.1 90 0 0 r.2, μ.2)) (ν := ν) (a := q.1) (Ad := Ad) C rfl hI.2.1 dL_law_1821 ?_
    refine g_iload C dL_law_1822 0 rfl ?_
    refine g_i2l C dL_law_1824 rfl ?_
    refine g_lcmp C dL_law_1825 (fun r7 e7 => ?_)
    refine g_if_eq (tgt := 1831) C dL_law_1826 (by decide) (fun c3 => ?_) (fun c3 => absurd (e7.mpr (congrArg Int32.toInt64 (show up3 μ.1 90 0 0 r.2 90 0 0 = _ from (up3_90 _ _).trans e2))) c3)
    refine g_goto (tgt := 2215) C dL_law_1831 (by decide) ?_
    refine g_lv (lv' := [(0, .ref b), (1, .ref (Ad 0 0)), (2, .ref (Ad 40 0)), (3, .ref (Ad 90 0)), (4, .int i)]) [2, 3, 4, 5, 6] rfl ?_
    refine g_widen (k := cells + (kc ν - kc ν) + 1) (n := slots + (ks ν - ks ν) + 6) (by omega) (by omega) ?_
    exact kk Ad (mn_rfl _) (kp_rfl _ _)
  · rcases cd_cons ec with ⟨e0, e1⟩ | ec
    · have hf1 : cells + (kc ν - kc ν) + 1 ≤ 299000 := hf.1
      have hf2 : slots + (ks ν - ks ν) + 6 ≤ 3090000 := hf.2
      refine g_aload_n C dL_law_1766 rfl 1 rfl ?_
      refine g_aload_n C dL_law_1767 rfl 0 rfl ?_
      refine g_iload C dL_law_1768 4 rfl ?_
      refine g_iconst (v := 1) C dL_law_1770 (by decide) ?_
      refine g_iadd C dL_law_1771 ?_
      refine g_ialdX C hX hbl hbA q1.1 dL_law_1772 ?_
      rw [q1.2]
      refine g_aload_n C dL_law_1773 rfl 0 rfl ?_
      refine g_iload C dL_law_1774 4 rfl ?_
      refine g_iconst (v := 2) C dL_law_1776 (by decide) ?_
      refine g_iadd C dL_law_1777 ?_
      refine g_ialdX C hX hbl hbA q2.1 dL_law_1778 ?_
      rw [q2.2]
      refine g_aload_n C dL_law_1779 rfl 3 rfl ?_
      refine g_cSh (n := 4) (exr := []) C hEv hN h3 [_, _, _, _] _ rfl rfl [] rfl rfl (fun sz => e1_L_left l hl B μ ν a Ad w x1 x2 r.2 (thrS hr e0) hI.1 hI.2.1 D E sz) rfl gh_left gw_0 gw_1261 gw_1262 ⟨by decide +kernel, by decide +kernel, by decide +kernel⟩ ⟨rfl, rfl⟩ ⟨Nat.le_of_ble_eq_true rfl, Nat.le_of_ble_eq_true rfl⟩ (Nat.le_of_ble_eq_true rfl) dL_law_1780 (rm_hf (by omega) (by omega)) (fun r8 u hp hx => ?_)
      obtain ⟨er8, rfl⟩ := hp
      rw [er8]
      try dsimp only [List.nil_append]
      refine g_istore (lv' := [(5, .int 1), (0, .ref b), (1, .ref (Ad 0 0)), (2, .ref (Ad 40 0)), (3, .ref (Ad 90 0)), (4, .int i)]) C dL_law_1783 (by decide) rfl ?_
      refine g_aload_n C dL_law_1785 rfl 3 rfl ?_
      refine g_aload_n C dL_law_1786 rfl 1 rfl ?_
      refine g_iload C dL_law_1787 5 rfl ?_
      refine g_iconst (v := 1) C dL_law_1789 (by decide) ?_
      refine g_iadd C dL_law_1790 ?_
      refine g_ialdX C hX hbl hbA q1.1 dL_law_1791 ?_
      rw [q1.2]
      refine g_aload_n C dL_law_1792 rfl 1 rfl ?_
      refine g_iload C dL_law_1793 5 rfl ?_
      refine g_iconst (v := 2) C dL_law_1795 (by decide) ?_
      refine g_iadd C dL_law_1796 ?_
      refine g_ialdX C hX hbl hbA q2.1 dL_law_1797 ?_
      rw [q2.2]
      refine g_cVi (n := 2) (exc := []) (exr := []) C [_, _] _ rfl rfl [] [] rfl rfl rfl rfl (fun _ _ h => absurd h (by simp)) (fun _ h => absurd h (by simp)) (fun _ h => absurd h (by simp)) (fun sz => zk_left l μ ν a Ad hI.2.2 w x1 x2 q hq D E sz) rfl gw_1754 gw_9 gw_1751 gw_1752 gw_1753 ⟨by decide +kernel, by decide +kernel, by decide +kernel⟩ ⟨rfl, rfl⟩ ⟨Nat.le_of_ble_eq_true rfl, Nat.le_of_ble_eq_true rfl⟩ (rcvT ⟨hI.2.2.1, fun e => absurd e (by decide)⟩ rfl rfl rfl) (Nat.le_of_ble_eq_true rfl) dL_law_1798 (rm_hf (by omega) (by omega)) (fun r9 u hp hx => ?_)
      obtain ⟨er9, rfl⟩ := hp
      rw [er9]
      try dsimp only [List.nil_append]
      refine g_istore (lv' := [(6, .int q.2), (5, .int 1), (0, .ref b), (1, .ref (Ad 0 0)), (2, .ref (Ad 40 0)), (3, .ref (Ad 90 0)), (4, .int i)]) C dL_law_1801 (by decide) rfl ?_
      refine g_aload_n C dL_law_1803 rfl 4 rfl ?_
      refine g_cVi (n := 0) (exc := []) (exr := []) C [] _ rfl rfl [] [] rfl rfl rfl rfl (fun _ _ h => absurd h (by simp)) (fun _ h => absurd h (by simp)) (fun _ h => absurd h (by simp)) (fun sz => zk_thrown l μ ν q.1 Ad hI.2.2 w  t ht D E sz) rfl gw_1468 gw_9 gw_1465 gw_1466 gw_1467 ⟨by decide +kernel, by decide +kernel, by decide +kernel⟩ ⟨rfl, rfl⟩ ⟨Nat.le_of_ble_eq_true rfl, Nat.le_of_ble_eq_true rfl⟩ (rcvT ⟨hI.2.2.1, fun e => absurd e (by decide)⟩ rfl rfl rfl) (Nat.le_of_ble_eq_true rfl) dL_law_1804 (rm_hf (by omega) (by omega)) (fun r9 u hp hx => ?_)
      obtain ⟨er9, rfl⟩ := hp
      rw [er9]
      try dsimp only [List.nil_append]
      refine g_iload C dL_law_1807 1 rfl ?_
      refine g_icmp_eq (tgt := 1814) C dL_law_1809 (by decide) (fun c1 => ?_) (fun c1 => absurd e1 c1)
      refine g_iload C dL_law_1814 1 rfl ?_
      refine g_if_ne (tgt := 1831) C dL_law_1816 (by decide) (fun c2 => ?_) (fun c2 => absurd c2 (by decide))
      refine g_goto (tgt := 2215) C dL_law_1831 (by decide) ?_
      refine g_lv (lv' := [(0, .ref b), (1, .ref (Ad 0 0)), (2, .ref (Ad 40 0)), (3, .ref (Ad 90 0)), (4, .int i)]) [2, 3, 4, 5, 6] rfl ?_
      refine g_widen (k := cells + (kc ν - kc ν) + 1) (n := slots + (ks ν - ks ν) + 6) (by omega) (by omega) ?_
      exact kk Ad (mn_rfl _) (kp_rfl _ _)
    · exact cd_nil ec
noncomputable def s_done (w : Nat) (μ : MP) (ν : NC) (a : AS) (x1 : Int32) (x2 : Int32) : Option ((MP × NC) × AS) := (f_X8_done w μ ν x1 x2).bind fun r => (f_X9_done w a x1 x2).bind fun q => (f_X9_thrown w q.1).bind fun t => lwq true [(1, 1)] μ ν (r.1, ((μ, ν), r.2)) q t
set_option maxHeartbeats 4000000 in
set_option maxRecDepth 100000 in
theorem w_done {p : Program} {l : Launch} {e : Env} {s : State} {m : MethodId} {args : Array Value} {below : List Frame} {meth : Method} {c : Code} {D : va_G} {E : Nat → ClassId} {A : Nat → Prop} {Q : State → Prop} {B : Nat × (Nat → Nat)} {a30 a31 : Nat} {μ : MP} {ν : NC} {a : AS} {Ad : Nat → Nat → Nat} {w : Nat} {b L : Nat} {xs : Nat → Int32} {cells slots : Nat} (C : cx p s m args meth c D E A cL_law 7 "TradeLineLaw") (hEv : eV a30 a31 B A s s.heap) (hN : vN s) (hl : l.stackTraces = false) (hI : lwI ν) (h3 : Ad 30 0 = a30 ∧ Ad 31 0 = a31) (hX : va_X b L xs s s.heap) (hbl : b < s.heap.size) (hbA : ¬ A b) {i x1 x2 : Int32} (q1 : vp_in (i + 1) L ∧ xs (i + 1).toNatClampNeg = x1) (q2 : vp_in (i + 2) L ∧ xs (i + 2).toNatClampNeg = x2) {S : (MP × NC) × AS} (h : s_done w μ ν a x1 x2 = some S) (hf : cells + (kc S.1.2 - kc ν) + 1 ≤ 299000 ∧ slots + (ks S.1.2 - ks ν) + 6 ≤ 3090000) (kk : ∀ A1, mn ν S.1.2 → kp ν Ad A1 → G p l e room_1 s m args below meth c D E A 7 Q (zS S.1.1 S.1.2 S.2 A1) [] (cells + (kc S.1.2 - kc ν) + 1) (slots + (ks S.1.2 - ks ν) + 6) 2215 [(0, .ref b), (1, .ref (A1 0 0)), (2, .ref (A1 40 0)), (3, .ref (A1 90 0)), (4, .int i)] []) : G p l e room_1 s m args below meth c D E A 7 Q (zS μ ν a Ad) [] (cells) (slots) 1834 [(0, .ref b), (1, .ref (Ad 0 0)), (2, .ref (Ad 40 0)), (3, .ref (Ad 90 0)), (4, .int i)] [] := by
  unfold s_done at h
  obtain ⟨r, hr, h⟩ := bind_of h
  obtain ⟨q, hq, h⟩ := bind_of h
  obtain ⟨t, ht, h⟩ := bind_of h
  rcases lwq_t h with ⟨e0, e1, e2, rfl⟩ | ⟨ec, rfl⟩
  · replace e0 : r.1 = 0 := e0
    have hf1 : cells + (kc ν - kc ν) + 1 ≤ 299000 := hf.1
    have hf2 : slots + (ks ν - ks ν) + 6 ≤ 3090000 := hf.2
    refine g_aload_n C dL_law_1834 rfl 1 rfl ?_
    refine g_aload_n C dL_law_1835 rfl 0 rfl ?_
    refine g_iload C dL_law_1836 4 rfl ?_
    refine g_iconst (v := 1) C dL_law_1838 (by decide) ?_
    refine g_iadd C dL_law_1839 ?_
    refine g_ialdX C hX hbl hbA q1.1 dL_law_1840 ?_
    rw [q1.2]
    refine g_aload_n C dL_law_1841 rfl 0 rfl ?_
    refine g_iload C dL_law_1842 4 rfl ?_
    refine g_iconst (v := 2) C dL_law_1844 (by decide) ?_
    refine g_iadd C dL_law_1845 ?_
    refine g_ialdX C hX hbl hbA q2.1 dL_law_1846 ?_
    rw [q2.2]
    refine g_aload_n C dL_law_1847 rfl 3 rfl ?_
    refine g_cSh (n := 4) (exr := []) C hEv hN h3 [_, _, _, _] _ rfl rfl [] rfl rfl (fun sz => r_L_done l B μ ν a Ad w x1 x2 r.2 (thr0 hr e0) hI.1 hI.2.1 D E sz) rfl gh_done gw_0 gw_1273 gw_1274 ⟨by decide +kernel, by decide +kernel, by decide +kernel⟩ ⟨rfl, rfl⟩ ⟨Nat.le_of_ble_eq_true rfl, Nat.le_of_ble_eq_true rfl⟩ (Nat.le_of_ble_eq_true rfl) dL_law_1848 (rm_hf (by omega) (by omega)) (fun r8 u hp hx => ?_)
    obtain ⟨er8, rfl⟩ := hp
    rw [er8]
    try dsimp only [List.nil_append]
    refine g_istore (lv' := [(5, .int 0), (0, .ref b), (1, .ref (Ad 0 0)), (2, .ref (Ad 40 0)), (3, .ref (Ad 90 0)), (4, .int i)]) C dL_law_1851 (by decide) rfl ?_
    refine g_aload_n C dL_law_1853 rfl 3 rfl ?_
    refine g_aload_n C dL_law_1854 rfl 1 rfl ?_
    refine g_iload C dL_law_1855 5 rfl ?_
    refine g_iconst (v := 1) C dL_law_1857 (by decide) ?_
    refine g_iadd C dL_law_1858 ?_
    refine g_ialdX C hX hbl hbA q1.1 dL_law_1859 ?_
    rw [q1.2]
    refine g_aload_n C dL_law_1860 rfl 1 rfl ?_
    refine g_iload C dL_law_1861 5 rfl ?_
    refine g_iconst (v := 2) C dL_law_1863 (by decide) ?_
    refine g_iadd C dL_law_1864 ?_
    refine g_ialdX C hX hbl hbA q2.1 dL_law_1865 ?_
    rw [q2.2]
    refine g_cVi (n := 2) (exc := []) (exr := []) C [_, _] _ rfl rfl [] [] rfl rfl rfl rfl (fun _ _ h => absurd h (by simp)) (fun _ h => absurd h (by simp)) (fun _ h => absurd h (by simp)) (fun sz => zk_done l (up3 μ.1 90 0 0 r.2, μ.2) ν a Ad hI.2.2 w x1 x2 q hq D E sz) rfl gw_1770 gw_9 gw_1767 gw_1768 gw_1769 ⟨by decide +kernel, by decide +kernel, by decide +kernel⟩ ⟨rfl, rfl⟩ ⟨Nat.le_of_ble_eq_true rfl, Nat.le_of_ble_eq_true rfl⟩ (rcvT ⟨hI.2.2.1, fun e => absurd e (by decide)⟩ rfl rfl rfl) (Nat.le_of_ble_eq_true rfl) dL_law_1866 (rm_hf (by omega) (by omega)) (fun r9 u hp hx => ?_)
    obtain ⟨er9, rfl⟩ := hp
    rw [er9]
    try dsimp only [List.nil_append]
    refine g_istore (lv' := [(6, .int q.2), (5, .int 0), (0, .ref b), (1, .ref (Ad 0 0)), (2, .ref (Ad 40 0)), (3, .ref (Ad 90 0)), (4, .int i)]) C dL_law_1869 (by decide) rfl ?_
    refine g_aload_n C dL_law_1871 rfl 4 rfl ?_
    refine g_cVi (n := 0) (exc := []) (exr := []) C [] _ rfl rfl [] [] rfl rfl rfl rfl (fun _ _ h => absurd h (by simp)) (fun _ h => absurd h (by simp)) (fun _ h => absurd h (by simp)) (fun sz => zk_thrown l (up3 μ.1 90 0 0 r.2, μ.2) ν q.1 Ad hI.2.2 w  t ht D E sz) rfl gw_1468 gw_9 gw_1465 gw_1466 gw_1467 ⟨by decide +kernel, by decide +kernel, by decide +kernel⟩ ⟨rfl, rfl⟩ ⟨Nat.le_of_ble_eq_true rfl, Nat.le_of_ble_eq_true rfl⟩ (rcvT ⟨hI.2.2.1, fun e => absurd e (by decide)⟩ rfl rfl rfl) (Nat.le_of_ble_eq_true rfl) dL_law_1872 (rm_hf (by omega) (by omega)) (fun r9 u hp hx => ?_)
    obtain ⟨er9, rfl⟩ := hp
    rw [er9]
    try dsimp only [List.nil_append]
    refine g_iload C dL_law_1875 1 rfl ?_
    refine g_icmp_eq (tgt := 1882) C dL_law_1877 (by decide) (fun c1 => ?_) (fun c1 => absurd e1 c1)
    refine g_iload C dL_law_1882 1 rfl ?_
    refine g_if_ne (tgt := 1899) C dL_law_1884 (by decide) (fun c2 => absurd rfl c2) (fun c2 => ?_)
    refine g_aload_n C dL_law_1887 rfl 5 rfl ?_
    refine g_iconst (v := 0) C dL_law_1888 (by decide) ?_
    refine g_lald (μ := (up3 μ.1 90 0 0 r.2, μ.2)) (ν := ν) (a := q.1) (Ad := Ad) C rfl hI.2.1 dL_law_1889 ?_
    refine g_iload C dL_law_1890 0 rfl ?_
    refine g_i2l C dL_law_1892 rfl ?_
    refine g_lcmp C dL_law_1893 (fun r7 e7 => ?_)
    refine g_if_eq (tgt := 1899) C dL_law_1894 (by decide) (fun c3 => ?_) (fun c3 => absurd (e7.mpr (congrArg Int32.toInt64 (show up3 μ.1 90 0 0 r.2 90 0 0 = _ from (up3_90 _ _).trans e2))) c3)
    refine g_goto (tgt := 2215) C dL_law_1899 (by decide) ?_
    refine g_lv (lv' := [(0, .ref b), (1, .ref (Ad 0 0)), (2, .ref (Ad 40 0)), (3, .ref (Ad 90 0)), (4, .int i)]) [2, 3, 4, 5, 6] rfl ?_
    refine g_widen (k := cells + (kc ν - kc ν) + 1) (n := slots + (ks ν - ks ν) + 6) (by omega) (by omega) ?_
    exact kk Ad (mn_rfl _) (kp_rfl _ _)
  · rcases cd_cons ec with ⟨e0, e1⟩ | ec
    · have hf1 : cells + (kc ν - kc ν) + 1 ≤ 299000 := hf.1
      have hf2 : slots + (ks ν - ks ν) + 6 ≤ 3090000 := hf.2
      refine g_aload_n C dL_law_1834 rfl 1 rfl ?_
      refine g_aload_n C dL_law_1835 rfl 0 rfl ?_
      refine g_iload C dL_law_1836 4 rfl ?_
      refine g_iconst (v := 1) C dL_law_1838 (by decide) ?_
      refine g_iadd C dL_law_1839 ?_
      refine g_ialdX C hX hbl hbA q1.1 dL_law_1840 ?_
      rw [q1.2]
      refine g_aload_n C dL_law_1841 rfl 0 rfl ?_
      refine g_iload C dL_law_1842 4 rfl ?_
      refine g_iconst (v := 2) C dL_law_1844 (by decide) ?_
      refine g_iadd C dL_law_1845 ?_
      refine g_ialdX C hX hbl hbA q2.1 dL_law_1846 ?_
      rw [q2.2]
      refine g_aload_n C dL_law_1847 rfl 3 rfl ?_
      refine g_cSh (n := 4) (exr := []) C hEv hN h3 [_, _, _, _] _ rfl rfl [] rfl rfl (fun sz => e1_L_done l hl B μ ν a Ad w x1 x2 r.2 (thrS hr e0) hI.1 hI.2.1 D E sz) rfl gh_done gw_0 gw_1273 gw_1274 ⟨by decide +kernel, by decide +kernel, by decide +kernel⟩ ⟨rfl, rfl⟩ ⟨Nat.le_of_ble_eq_true rfl, Nat.le_of_ble_eq_true rfl⟩ (Nat.le_of_ble_eq_true rfl) dL_law_1848 (rm_hf (by omega) (by omega)) (fun r8 u hp hx => ?_)
      obtain ⟨er8, rfl⟩ := hp
      rw [er8]
      try dsimp only [List.nil_append]
      refine g_istore (lv' := [(5, .int 1), (0, .ref b), (1, .ref (Ad 0 0)), (2, .ref (Ad 40 0)), (3, .ref (Ad 90 0)), (4, .int i)]) C dL_law_1851 (by decide) rfl ?_
      refine g_aload_n C dL_law_1853 rfl 3 rfl ?_
      refine g_aload_n C dL_law_1854 rfl 1 rfl ?_
      refine g_iload C dL_law_1855 5 rfl ?_
      refine g_iconst (v := 1) C dL_law_1857 (by decide) ?_
      refine g_iadd C dL_law_1858 ?_
      refine g_ialdX C hX hbl hbA q1.1 dL_law_1859 ?_
      rw [q1.2]
      refine g_aload_n C dL_law_1860 rfl 1 rfl ?_
      refine g_iload C dL_law_1861 5 rfl ?_
      refine g_iconst (v := 2) C dL_law_1863 (by decide) ?_
      refine g_iadd C dL_law_1864 ?_
      refine g_ialdX C hX hbl hbA q2.1 dL_law_1865 ?_
      rw [q2.2]
      refine g_cVi (n := 2) (exc := []) (exr := []) C [_, _] _ rfl rfl [] [] rfl rfl rfl rfl (fun _ _ h => absurd h (by simp)) (fun _ h => absurd h (by simp)) (fun _ h => absurd h (by simp)) (fun sz => zk_done l μ ν a Ad hI.2.2 w x1 x2 q hq D E sz) rfl gw_1770 gw_9 gw_1767 gw_1768 gw_1769 ⟨by decide +kernel, by decide +kernel, by decide +kernel⟩ ⟨rfl, rfl⟩ ⟨Nat.le_of_ble_eq_true rfl, Nat.le_of_ble_eq_true rfl⟩ (rcvT ⟨hI.2.2.1, fun e => absurd e (by decide)⟩ rfl rfl rfl) (Nat.le_of_ble_eq_true rfl) dL_law_1866 (rm_hf (by omega) (by omega)) (fun r9 u hp hx => ?_)
      obtain ⟨er9, rfl⟩ := hp
      rw [er9]
      try dsimp only [List.nil_append]
      refine g_istore (lv' := [(6, .int q.2), (5, .int 1), (0, .ref b), (1, .ref (Ad 0 0)), (2, .ref (Ad 40 0)), (3, .ref (Ad 90 0)), (4, .int i)]) C dL_law_1869 (by decide) rfl ?_
      refine g_aload_n C dL_law_1871 rfl 4 rfl ?_
      refine g_cVi (n := 0) (exc := []) (exr := []) C [] _ rfl rfl [] [] rfl rfl rfl rfl (fun _ _ h => absurd h (by simp)) (fun _ h => absurd h (by simp)) (fun _ h => absurd h (by simp)) (fun sz => zk_thrown l μ ν q.1 Ad hI.2.2 w  t ht D E sz) rfl gw_1468 gw_9 gw_1465 gw_1466 gw_1467 ⟨by decide +kernel, by decide +kernel, by decide +kernel⟩ ⟨rfl, rfl⟩ ⟨Nat.le_of_ble_eq_true rfl, Nat.le_of_ble_eq_true rfl⟩ (rcvT ⟨hI.2.2.1, fun e => absurd e (by decide)⟩ rfl rfl rfl) (Nat.le_of_ble_eq_true rfl) dL_law_1872 (rm_hf (by omega) (by omega)) (fun r9 u hp hx => ?_)
      obtain ⟨er9, rfl⟩ := hp
      rw [er9]
      try dsimp only [List.nil_append]
      refine g_iload C dL_law_1875 1 rfl ?_
      refine g_icmp_eq (tgt := 1882) C dL_law_1877 (by decide) (fun c1 => ?_) (fun c1 => absurd e1 c1)
      refine g_iload C dL_law_1882 1 rfl ?_
      refine g_if_ne (tgt := 1899) C dL_law_1884 (by decide) (fun c2 => ?_) (fun c2 => absurd c2 (by decide))
      refine g_goto (tgt := 2215) C dL_law_1899 (by decide) ?_
      refine g_lv (lv' := [(0, .ref b), (1, .ref (Ad 0 0)), (2, .ref (Ad 40 0)), (3, .ref (Ad 90 0)), (4, .int i)]) [2, 3, 4, 5, 6] rfl ?_
      refine g_widen (k := cells + (kc ν - kc ν) + 1) (n := slots + (ks ν - ks ν) + 6) (by omega) (by omega) ?_
      exact kk Ad (mn_rfl _) (kp_rfl _ _)
    · exact cd_nil ec
noncomputable def s_doneByLog (w : Nat) (μ : MP) (ν : NC) (a : AS) (x1 : Int32) (x2 : Int32) : Option ((MP × NC) × AS) := (f_X8_doneByLog w μ ν x1 x2).bind fun r => (f_X9_doneByLog w a x1 x2).bind fun q => (f_X9_thrown w q.1).bind fun t => lwq true [(1, 1)] μ ν (r.1, ((μ, ν), r.2)) q t
set_option maxHeartbeats 4000000 in
set_option maxRecDepth 100000 in
theorem w_doneByLog {p : Program} {l : Launch} {e : Env} {s : State} {m : MethodId} {args : Array Value} {below : List Frame} {meth : Method} {c : Code} {D : va_G} {E : Nat → ClassId} {A : Nat → Prop} {Q : State → Prop} {B : Nat × (Nat → Nat)} {a30 a31 : Nat} {μ : MP} {ν : NC} {a : AS} {Ad : Nat → Nat → Nat} {w : Nat} {b L : Nat} {xs : Nat → Int32} {cells slots : Nat} (C : cx p s m args meth c D E A cL_law 7 "TradeLineLaw") (hEv : eV a30 a31 B A s s.heap) (hN : vN s) (hl : l.stackTraces = false) (hI : lwI ν) (h3 : Ad 30 0 = a30 ∧ Ad 31 0 = a31) (hX : va_X b L xs s s.heap) (hbl : b < s.heap.size) (hbA : ¬ A b) {i x1 x2 : Int32} (q1 : vp_in (i + 1) L ∧ xs (i + 1).toNatClampNeg = x1) (q2 : vp_in (i + 2) L ∧ xs (i + 2).toNatClampNeg = x2) {S : (MP × NC) × AS} (h : s_doneByLog w μ ν a x1 x2 = some S) (hf : cells + (kc S.1.2 - kc ν) + 1 ≤ 299000 ∧ slots + (ks S.1.2 - ks ν) + 6 ≤ 3090000) (kk : ∀ A1, mn ν S.1.2 → kp ν Ad A1 → G p l e room_1 s m args below meth c D E A 7 Q (zS S.1.1 S.1.2 S.2 A1) [] (cells + (kc S.1.2 - kc ν) + 1) (slots + (ks S.1.2 - ks ν) + 6) 2215 [(0, .ref b), (1, .ref (A1 0 0)), (2, .ref (A1 40 0)), (3, .ref (A1 90 0)), (4, .int i)] []) : G p l e room_1 s m args below meth c D E A 7 Q (zS μ ν a Ad) [] (cells) (slots) 1902 [(0, .ref b), (1, .ref (Ad 0 0)), (2, .ref (Ad 40 0)), (3, .ref (Ad 90 0)), (4, .int i)] [] := by
  unfold s_doneByLog at h
  obtain ⟨r, hr, h⟩ := bind_of h
  obtain ⟨q, hq, h⟩ := bind_of h
  obtain ⟨t, ht, h⟩ := bind_of h
  rcases lwq_t h with ⟨e0, e1, e2, rfl⟩ | ⟨ec, rfl⟩
  · replace e0 : r.1 = 0 := e0
    have hf1 : cells + (kc ν - kc ν) + 1 ≤ 299000 := hf.1
    have hf2 : slots + (ks ν - ks ν) + 6 ≤ 3090000 := hf.2
    refine g_aload_n C dL_law_1902 rfl 1 rfl ?_
    refine g_aload_n C dL_law_1903 rfl 0 rfl ?_
    refine g_iload C dL_law_1904 4 rfl ?_
    refine g_iconst (v := 1) C dL_law_1906 (by decide) ?_
    refine g_iadd C dL_law_1907 ?_
    refine g_ialdX C hX hbl hbA q1.1 dL_law_1908 ?_
    rw [q1.2]
    refine g_aload_n C dL_law_1909 rfl 0 rfl ?_
    refine g_iload C dL_law_1910 4 rfl ?_
    refine g_iconst (v := 2) C dL_law_1912 (by decide) ?_
    refine g_iadd C dL_law_1913 ?_
    refine g_ialdX C hX hbl hbA q2.1 dL_law_1914 ?_
    rw [q2.2]
    refine g_aload_n C dL_law_1915 rfl 3 rfl ?_
    refine g_cSh (n := 4) (exr := []) C hEv hN h3 [_, _, _, _] _ rfl rfl [] rfl rfl (fun sz => r_L_doneByLog l B μ ν a Ad w x1 x2 r.2 (thr0 hr e0) hI.1 hI.2.1 D E sz) rfl gh_doneByLog gw_0 gw_1281 gw_1282 ⟨by decide +kernel, by decide +kernel, by decide +kernel⟩ ⟨rfl, rfl⟩ ⟨Nat.le_of_ble_eq_true rfl, Nat.le_of_ble_eq_true rfl⟩ (Nat.le_of_ble_eq_true rfl) dL_law_1916 (rm_hf (by omega) (by omega)) (fun r8 u hp hx => ?_)
    obtain ⟨er8, rfl⟩ := hp
    rw [er8]
    try dsimp only [List.nil_append]
    refine g_istore (lv' := [(5, .int 0), (0, .ref b), (1, .ref (Ad 0 0)), (2, .ref (Ad 40 0)), (3, .ref (Ad 90 0)), (4, .int i)]) C dL_law_1919 (by decide) rfl ?_
    refine g_aload_n C dL_law_1921 rfl 3 rfl ?_
    refine g_aload_n C dL_law_1922 rfl 1 rfl ?_
    refine g_iload C dL_law_1923 5 rfl ?_
    refine g_iconst (v := 1) C dL_law_1925 (by decide) ?_
    refine g_iadd C dL_law_1926 ?_
    refine g_ialdX C hX hbl hbA q1.1 dL_law_1927 ?_
    rw [q1.2]
    refine g_aload_n C dL_law_1928 rfl 1 rfl ?_
    refine g_iload C dL_law_1929 5 rfl ?_
    refine g_iconst (v := 2) C dL_law_1931 (by decide) ?_
    refine g_iadd C dL_law_1932 ?_
    refine g_ialdX C hX hbl hbA q2.1 dL_law_1933 ?_
    rw [q2.2]
    refine g_cVi (n := 2) (exc := []) (exr := []) C [_, _] _ rfl rfl [] [] rfl rfl rfl rfl (fun _ _ h => absurd h (by simp)) (fun _ h => absurd h (by simp)) (fun _ h => absurd h (by simp)) (fun sz => zk_doneByLog l (up3 μ.1 90 0 0 r.2, μ.2) ν a Ad hI.2.2 w x1 x2 q hq D E sz) rfl gw_1778 gw_9 gw_1775 gw_1776 gw_1777 ⟨by decide +kernel, by decide +kernel, by decide +kernel⟩ ⟨rfl, rfl⟩ ⟨Nat.le_of_ble_eq_true rfl, Nat.le_of_ble_eq_true rfl⟩ (rcvT ⟨hI.2.2.1, fun e => absurd e (by decide)⟩ rfl rfl rfl) (Nat.le_of_ble_eq_true rfl) dL_law_1934 (rm_hf (by omega) (by omega)) (fun r9 u hp hx => ?_)
    obtain ⟨er9, rfl⟩ := hp
    rw [er9]
    try dsimp only [List.nil_append]
    refine g_istore (lv' := [(6, .int q.2), (5, .int 0), (0, .ref b), (1, .ref (Ad 0 0)), (2, .ref (Ad 40 0)), (3, .ref (Ad 90 0)), (4, .int i)]) C dL_law_1937 (by decide) rfl ?_
    refine g_aload_n C dL_law_1939 rfl 4 rfl ?_
    refine g_cVi (n := 0) (exc := []) (exr := []) C [] _ rfl rfl [] [] rfl rfl rfl rfl (fun _ _ h => absurd h (by simp)) (fun _ h => absurd h (by simp)) (fun _ h => absurd h (by simp)) (fun sz => zk_thrown l (up3 μ.1 90 0 0 r.2, μ.2) ν q.1 Ad hI.2.2 w  t ht D E sz) rfl gw_1468 gw_9 gw_1465 gw_1466 gw_1467 ⟨by decide +kernel, by decide +kernel, by decide +kernel⟩ ⟨rfl, rfl⟩ ⟨Nat.le_of_ble_eq_true rfl, Nat.le_of_ble_eq_true rfl⟩ (rcvT ⟨hI.2.2.1, fun e => absurd e (by decide)⟩ rfl rfl rfl) (Nat.le_of_ble_eq_true rfl) dL_law_1940 (rm_hf (by omega) (by omega)) (fun r9 u hp hx => ?_)
    obtain ⟨er9, rfl⟩ := hp
    rw [er9]
    try dsimp only [List.nil_append]
    refine g_iload C dL_law_1943 1 rfl ?_
    refine g_icmp_eq (tgt := 1950) C dL_law_1945 (by decide) (fun c1 => ?_) (fun c1 => absurd e1 c1)
    refine g_iload C dL_law_1950 1 rfl ?_
    refine g_if_ne (tgt := 1967) C dL_law_1952 (by decide) (fun c2 => absurd rfl c2) (fun c2 => ?_)
    refine g_aload_n C dL_law_1955 rfl 5 rfl ?_
    refine g_iconst (v := 0) C dL_law_1956 (by decide) ?_
    refine g_lald (μ := (up3 μ.1 90 0 0 r.2, μ.2)) (ν := ν) (a := q.1) (Ad := Ad) C rfl hI.2.1 dL_law_1957 ?_
    refine g_iload C dL_law_1958 0 rfl ?_
    refine g_i2l C dL_law_1960 rfl ?_
    refine g_lcmp C dL_law_1961 (fun r7 e7 => ?_)
    refine g_if_eq (tgt := 1967) C dL_law_1962 (by decide) (fun c3 => ?_) (fun c3 => absurd (e7.mpr (congrArg Int32.toInt64 (show up3 μ.1 90 0 0 r.2 90 0 0 = _ from (up3_90 _ _).trans e2))) c3)
    refine g_goto (tgt := 2215) C dL_law_1967 (by decide) ?_
    refine g_lv (lv' := [(0, .ref b), (1, .ref (Ad 0 0)), (2, .ref (Ad 40 0)), (3, .ref (Ad 90 0)), (4, .int i)]) [2, 3, 4, 5, 6] rfl ?_
    refine g_widen (k := cells + (kc ν - kc ν) + 1) (n := slots + (ks ν - ks ν) + 6) (by omega) (by omega) ?_
    exact kk Ad (mn_rfl _) (kp_rfl _ _)
  · rcases cd_cons ec with ⟨e0, e1⟩ | ec
    · have hf1 : cells + (kc ν - kc ν) + 1 ≤ 299000 := hf.1
      have hf2 : slots + (ks ν - ks ν) + 6 ≤ 3090000 := hf.2
      refine g_aload_n C dL_law_1902 rfl 1 rfl ?_
      refine g_aload_n C dL_law_1903 rfl 0 rfl ?_
      refine g_iload C dL_law_1904 4 rfl ?_
      refine g_iconst (v := 1) C dL_law_1906 (by decide) ?_
      refine g_iadd C dL_law_1907 ?_
      refine g_ialdX C hX hbl hbA q1.1 dL_law_1908 ?_
      rw [q1.2]
      refine g_aload_n C dL_law_1909 rfl 0 rfl ?_
      refine g_iload C dL_law_1910 4 rfl ?_
      refine g_iconst (v := 2) C dL_law_1912 (by decide) ?_
      refine g_iadd C dL_law_1913 ?_
      refine g_ialdX C hX hbl hbA q2.1 dL_law_1914 ?_
      rw [q2.2]
      refine g_aload_n C dL_law_1915 rfl 3 rfl ?_
      refine g_cSh (n := 4) (exr := []) C hEv hN h3 [_, _, _, _] _ rfl rfl [] rfl rfl (fun sz => e1_L_doneByLog l hl B μ ν a Ad w x1 x2 r.2 (thrS hr e0) hI.1 hI.2.1 D E sz) rfl gh_doneByLog gw_0 gw_1281 gw_1282 ⟨by decide +kernel, by decide +kernel, by decide +kernel⟩ ⟨rfl, rfl⟩ ⟨Nat.le_of_ble_eq_true rfl, Nat.le_of_ble_eq_true rfl⟩ (Nat.le_of_ble_eq_true rfl) dL_law_1916 (rm_hf (by omega) (by omega)) (fun r8 u hp hx => ?_)
      obtain ⟨er8, rfl⟩ := hp
      rw [er8]
      try dsimp only [List.nil_append]
      refine g_istore (lv' := [(5, .int 1), (0, .ref b), (1, .ref (Ad 0 0)), (2, .ref (Ad 40 0)), (3, .ref (Ad 90 0)), (4, .int i)]) C dL_law_1919 (by decide) rfl ?_
      refine g_aload_n C dL_law_1921 rfl 3 rfl ?_
      refine g_aload_n C dL_law_1922 rfl 1 rfl ?_
      refine g_iload C dL_law_1923 5 rfl ?_
      refine g_iconst (v := 1) C dL_law_1925 (by decide) ?_
      refine g_iadd C dL_law_1926 ?_
      refine g_ialdX C hX hbl hbA q1.1 dL_law_1927 ?_
      rw [q1.2]
      refine g_aload_n C dL_law_1928 rfl 1 rfl ?_
      refine g_iload C dL_law_1929 5 rfl ?_
      refine g_iconst (v := 2) C dL_law_1931 (by decide) ?_
      refine g_iadd C dL_law_1932 ?_
      refine g_ialdX C hX hbl hbA q2.1 dL_law_1933 ?_
      rw [q2.2]
      refine g_cVi (n := 2) (exc := []) (exr := []) C [_, _] _ rfl rfl [] [] rfl rfl rfl rfl (fun _ _ h => absurd h (by simp)) (fun _ h => absurd h (by simp)) (fun _ h => absurd h (by simp)) (fun sz => zk_doneByLog l μ ν a Ad hI.2.2 w x1 x2 q hq D E sz) rfl gw_1778 gw_9 gw_1775 gw_1776 gw_1777 ⟨by decide +kernel, by decide +kernel, by decide +kernel⟩ ⟨rfl, rfl⟩ ⟨Nat.le_of_ble_eq_true rfl, Nat.le_of_ble_eq_true rfl⟩ (rcvT ⟨hI.2.2.1, fun e => absurd e (by decide)⟩ rfl rfl rfl) (Nat.le_of_ble_eq_true rfl) dL_law_1934 (rm_hf (by omega) (by omega)) (fun r9 u hp hx => ?_)
      obtain ⟨er9, rfl⟩ := hp
      rw [er9]
      try dsimp only [List.nil_append]
      refine g_istore (lv' := [(6, .int q.2), (5, .int 1), (0, .ref b), (1, .ref (Ad 0 0)), (2, .ref (Ad 40 0)), (3, .ref (Ad 90 0)), (4, .int i)]) C dL_law_1937 (by decide) rfl ?_
      refine g_aload_n C dL_law_1939 rfl 4 rfl ?_
      refine g_cVi (n := 0) (exc := []) (exr := []) C [] _ rfl rfl [] [] rfl rfl rfl rfl (fun _ _ h => absurd h (by simp)) (fun _ h => absurd h (by simp)) (fun _ h => absurd h (by simp)) (fun sz => zk_thrown l μ ν q.1 Ad hI.2.2 w  t ht D E sz) rfl gw_1468 gw_9 gw_1465 gw_1466 gw_1467 ⟨by decide +kernel, by decide +kernel, by decide +kernel⟩ ⟨rfl, rfl⟩ ⟨Nat.le_of_ble_eq_true rfl, Nat.le_of_ble_eq_true rfl⟩ (rcvT ⟨hI.2.2.1, fun e => absurd e (by decide)⟩ rfl rfl rfl) (Nat.le_of_ble_eq_true rfl) dL_law_1940 (rm_hf (by omega) (by omega)) (fun r9 u hp hx => ?_)
      obtain ⟨er9, rfl⟩ := hp
      rw [er9]
      try dsimp only [List.nil_append]
      refine g_iload C dL_law_1943 1 rfl ?_
      refine g_icmp_eq (tgt := 1950) C dL_law_1945 (by decide) (fun c1 => ?_) (fun c1 => absurd e1 c1)
      refine g_iload C dL_law_1950 1 rfl ?_
      refine g_if_ne (tgt := 1967) C dL_law_1952 (by decide) (fun c2 => ?_) (fun c2 => absurd c2 (by decide))
      refine g_goto (tgt := 2215) C dL_law_1967 (by decide) ?_
      refine g_lv (lv' := [(0, .ref b), (1, .ref (Ad 0 0)), (2, .ref (Ad 40 0)), (3, .ref (Ad 90 0)), (4, .int i)]) [2, 3, 4, 5, 6] rfl ?_
      refine g_widen (k := cells + (kc ν - kc ν) + 1) (n := slots + (ks ν - ks ν) + 6) (by omega) (by omega) ?_
      exact kk Ad (mn_rfl _) (kp_rfl _ _)
    · exact cd_nil ec
noncomputable def s_out (w : Nat) (μ : MP) (ν : NC) (a : AS) (x1 : Int32) (x2 : Int32) : Option ((MP × NC) × AS) := (f_X8_out w μ ν x1 x2).bind fun r => (f_X9_out w a x1 x2).bind fun q => (f_X9_thrown w q.1).bind fun t => lwq true [(1, 1)] μ ν (r.1, ((μ, ν), r.2)) q t
set_option maxHeartbeats 4000000 in
set_option maxRecDepth 100000 in
theorem w_out {p : Program} {l : Launch} {e : Env} {s : State} {m : MethodId} {args : Array Value} {below : List Frame} {meth : Method} {c : Code} {D : va_G} {E : Nat → ClassId} {A : Nat → Prop} {Q : State → Prop} {B : Nat × (Nat → Nat)} {a30 a31 : Nat} {μ : MP} {ν : NC} {a : AS} {Ad : Nat → Nat → Nat} {w : Nat} {b L : Nat} {xs : Nat → Int32} {cells slots : Nat} (C : cx p s m args meth c D E A cL_law 7 "TradeLineLaw") (hEv : eV a30 a31 B A s s.heap) (hN : vN s) (hl : l.stackTraces = false) (hI : lwI ν) (h3 : Ad 30 0 = a30 ∧ Ad 31 0 = a31) (hX : va_X b L xs s s.heap) (hbl : b < s.heap.size) (hbA : ¬ A b) {i x1 x2 : Int32} (q1 : vp_in (i + 1) L ∧ xs (i + 1).toNatClampNeg = x1) (q2 : vp_in (i + 2) L ∧ xs (i + 2).toNatClampNeg = x2) {S : (MP × NC) × AS} (h : s_out w μ ν a x1 x2 = some S) (hf : cells + (kc S.1.2 - kc ν) + 1 ≤ 299000 ∧ slots + (ks S.1.2 - ks ν) + 6 ≤ 3090000) (kk : ∀ A1, mn ν S.1.2 → kp ν Ad A1 → G p l e room_1 s m args below meth c D E A 7 Q (zS S.1.1 S.1.2 S.2 A1) [] (cells + (kc S.1.2 - kc ν) + 1) (slots + (ks S.1.2 - ks ν) + 6) 2215 [(0, .ref b), (1, .ref (A1 0 0)), (2, .ref (A1 40 0)), (3, .ref (A1 90 0)), (4, .int i)] []) : G p l e room_1 s m args below meth c D E A 7 Q (zS μ ν a Ad) [] (cells) (slots) 1970 [(0, .ref b), (1, .ref (Ad 0 0)), (2, .ref (Ad 40 0)), (3, .ref (Ad 90 0)), (4, .int i)] [] := by
  unfold s_out at h
  obtain ⟨r, hr, h⟩ := bind_of h
  obtain ⟨q, hq, h⟩ := bind_of h
  obtain ⟨t, ht, h⟩ := bind_of h
  rcases lwq_t h with ⟨e0, e1, e2, rfl⟩ | ⟨ec, rfl⟩
  · replace e0 : r.1 = 0 := e0
    have hf1 : cells + (kc ν - kc ν) + 1 ≤ 299000 := hf.1
    have hf2 : slots + (ks ν - ks ν) + 6 ≤ 3090000 := hf.2
    refine g_aload_n C dL_law_1970 rfl 1 rfl ?_
    refine g_aload_n C dL_law_1971 rfl 0 rfl ?_
    refine g_iload C dL_law_1972 4 rfl ?_
    refine g_iconst (v := 1) C dL_law_1974 (by decide) ?_
    refine g_iadd C dL_law_1975 ?_
    refine g_ialdX C hX hbl hbA q1.1 dL_law_1976 ?_
    rw [q1.2]
    refine g_aload_n C dL_law_1977 rfl 0 rfl ?_
    refine g_iload C dL_law_1978 4 rfl ?_
    refine g_iconst (v := 2) C dL_law_1980 (by decide) ?_
    refine g_iadd C dL_law_1981 ?_
    refine g_ialdX C hX hbl hbA q2.1 dL_law_1982 ?_
    rw [q2.2]
    refine g_aload_n C dL_law_1983 rfl 3 rfl ?_
    refine g_cSh (n := 4) (exr := []) C hEv hN h3 [_, _, _, _] _ rfl rfl [] rfl rfl (fun sz => r_L_out l B μ ν a Ad w x1 x2 r.2 (thr0 hr e0) hI.1 hI.2.1 D E sz) rfl gh_out gw_0 gw_1292 gw_1293 ⟨by decide +kernel, by decide +kernel, by decide +kernel⟩ ⟨rfl, rfl⟩ ⟨Nat.le_of_ble_eq_true rfl, Nat.le_of_ble_eq_true rfl⟩ (Nat.le_of_ble_eq_true rfl) dL_law_1984 (rm_hf (by omega) (by omega)) (fun r8 u hp hx => ?_)
    obtain ⟨er8, rfl⟩ := hp
    rw [er8]
    try dsimp only [List.nil_append]
    refine g_istore (lv' := [(5, .int 0), (0, .ref b), (1, .ref (Ad 0 0)), (2, .ref (Ad 40 0)), (3, .ref (Ad 90 0)), (4, .int i)]) C dL_law_1987 (by decide) rfl ?_
    refine g_aload_n C dL_law_1989 rfl 3 rfl ?_
    refine g_aload_n C dL_law_1990 rfl 1 rfl ?_
    refine g_iload C dL_law_1991 5 rfl ?_
    refine g_iconst (v := 1) C dL_law_1993 (by decide) ?_
    refine g_iadd C dL_law_1994 ?_
    refine g_ialdX C hX hbl hbA q1.1 dL_law_1995 ?_
    rw [q1.2]
    refine g_aload_n C dL_law_1996 rfl 1 rfl ?_
    refine g_iload C dL_law_1997 5 rfl ?_
    refine g_iconst (v := 2) C dL_law_1999 (by decide) ?_
    refine g_iadd C dL_law_2000 ?_
    refine g_ialdX C hX hbl hbA q2.1 dL_law_2001 ?_
    rw [q2.2]
    refine g_cVi (n := 2) (exc := []) (exr := []) C [_, _] _ rfl rfl [] [] rfl rfl rfl rfl (fun _ _ h => absurd h (by simp)) (fun _ h => absurd h (by simp)) (fun _ h => absurd h (by simp)) (fun sz => zk_out l (up3 μ.1 90 0 0 r.2, μ.2) ν a Ad hI.2.2 w x1 x2 q hq D E sz) rfl gw_1782 gw_9 gw_1779 gw_1780 gw_1781 ⟨by decide +kernel, by decide +kernel, by decide +kernel⟩ ⟨rfl, rfl⟩ ⟨Nat.le_of_ble_eq_true rfl, Nat.le_of_ble_eq_true rfl⟩ (rcvT ⟨hI.2.2.1, fun e => absurd e (by decide)⟩ rfl rfl rfl) (Nat.le_of_ble_eq_true rfl) dL_law_2002 (rm_hf (by omega) (by omega)) (fun r9 u hp hx => ?_)
    obtain ⟨er9, rfl⟩ := hp
    rw [er9]
    try dsimp only [List.nil_append]
    refine g_istore (lv' := [(6, .int q.2), (5, .int 0), (0, .ref b), (1, .ref (Ad 0 0)), (2, .ref (Ad 40 0)), (3, .ref (Ad 90 0)), (4, .int i)]) C dL_law_2005 (by decide) rfl ?_
    refine g_aload_n C dL_law_2007 rfl 4 rfl ?_
    refine g_cVi (n := 0) (exc := []) (exr := []) C [] _ rfl rfl [] [] rfl rfl rfl rfl (fun _ _ h => absurd h (by simp)) (fun _ h => absurd h (by simp)) (fun _ h => absurd h (by simp)) (fun sz => zk_thrown l (up3 μ.1 90 0 0 r.2, μ.2) ν q.1 Ad hI.2.2 w  t ht D E sz) rfl gw_1468 gw_9 gw_1465 gw_1466 gw_1467 ⟨by decide +kernel, by decide +kernel, by decide +kernel⟩ ⟨rfl, rfl⟩ ⟨Nat.le_of_ble_eq_true rfl, Nat.le_of_ble_eq_true rfl⟩ (rcvT ⟨hI.2.2.1, fun e => absurd e (by decide)⟩ rfl rfl rfl) (Nat.le_of_ble_eq_true rfl) dL_law_2008 (rm_hf (by omega) (by omega)) (fun r9 u hp hx => ?_)
    obtain ⟨er9, rfl⟩ := hp
    rw [er9]
    try dsimp only [List.nil_append]
    refine g_iload C dL_law_2011 1 rfl ?_
    refine g_icmp_eq (tgt := 2018) C dL_law_2013 (by decide) (fun c1 => ?_) (fun c1 => absurd e1 c1)
    refine g_iload C dL_law_2018 1 rfl ?_
    refine g_if_ne (tgt := 2035) C dL_law_2020 (by decide) (fun c2 => absurd rfl c2) (fun c2 => ?_)
    refine g_aload_n C dL_law_2023 rfl 5 rfl ?_
    refine g_iconst (v := 0) C dL_law_2024 (by decide) ?_
    refine g_lald (μ := (up3 μ.1 90 0 0 r.2, μ.2)) (ν := ν) (a := q.1) (Ad := Ad) C rfl hI.2.1 dL_law_2025 ?_
    refine g_iload C dL_law_2026 0 rfl ?_
    refine g_i2l C dL_law_2028 rfl ?_
    refine g_lcmp C dL_law_2029 (fun r7 e7 => ?_)
    refine g_if_eq (tgt := 2035) C dL_law_2030 (by decide) (fun c3 => ?_) (fun c3 => absurd (e7.mpr (congrArg Int32.toInt64 (show up3 μ.1 90 0 0 r.2 90 0 0 = _ from (up3_90 _ _).trans e2))) c3)
    refine g_goto (tgt := 2215) C dL_law_2035 (by decide) ?_
    refine g_lv (lv' := [(0, .ref b), (1, .ref (Ad 0 0)), (2, .ref (Ad 40 0)), (3, .ref (Ad 90 0)), (4, .int i)]) [2, 3, 4, 5, 6] rfl ?_
    refine g_widen (k := cells + (kc ν - kc ν) + 1) (n := slots + (ks ν - ks ν) + 6) (by omega) (by omega) ?_
    exact kk Ad (mn_rfl _) (kp_rfl _ _)
  · rcases cd_cons ec with ⟨e0, e1⟩ | ec
    · have hf1 : cells + (kc ν - kc ν) + 1 ≤ 299000 := hf.1
      have hf2 : slots + (ks ν - ks ν) + 6 ≤ 3090000 := hf.2
      refine g_aload_n C dL_law_1970 rfl 1 rfl ?_
      refine g_aload_n C dL_law_1971 rfl 0 rfl ?_
      refine g_iload C dL_law_1972 4 rfl ?_
      refine g_iconst (v := 1) C dL_law_1974 (by decide) ?_
      refine g_iadd C dL_law_1975 ?_
      refine g_ialdX C hX hbl hbA q1.1 dL_law_1976 ?_
      rw [q1.2]
      refine g_aload_n C dL_law_1977 rfl 0 rfl ?_
      refine g_iload C dL_law_1978 4 rfl ?_
      refine g_iconst (v := 2) C dL_law_1980 (by decide) ?_
      refine g_iadd C dL_law_1981 ?_
      refine g_ialdX C hX hbl hbA q2.1 dL_law_1982 ?_
      rw [q2.2]
      refine g_aload_n C dL_law_1983 rfl 3 rfl ?_
      refine g_cSh (n := 4) (exr := []) C hEv hN h3 [_, _, _, _] _ rfl rfl [] rfl rfl (fun sz => e1_L_out l hl B μ ν a Ad w x1 x2 r.2 (thrS hr e0) hI.1 hI.2.1 D E sz) rfl gh_out gw_0 gw_1292 gw_1293 ⟨by decide +kernel, by decide +kernel, by decide +kernel⟩ ⟨rfl, rfl⟩ ⟨Nat.le_of_ble_eq_true rfl, Nat.le_of_ble_eq_true rfl⟩ (Nat.le_of_ble_eq_true rfl) dL_law_1984 (rm_hf (by omega) (by omega)) (fun r8 u hp hx => ?_)
      obtain ⟨er8, rfl⟩ := hp
      rw [er8]
      try dsimp only [List.nil_append]
      refine g_istore (lv' := [(5, .int 1), (0, .ref b), (1, .ref (Ad 0 0)), (2, .ref (Ad 40 0)), (3, .ref (Ad 90 0)), (4, .int i)]) C dL_law_1987 (by decide) rfl ?_
      refine g_aload_n C dL_law_1989 rfl 3 rfl ?_
      refine g_aload_n C dL_law_1990 rfl 1 rfl ?_
      refine g_iload C dL_law_1991 5 rfl ?_
      refine g_iconst (v := 1) C dL_law_1993 (by decide) ?_
      refine g_iadd C dL_law_1994 ?_
      refine g_ialdX C hX hbl hbA q1.1 dL_law_1995 ?_
      rw [q1.2]
      refine g_aload_n C dL_law_1996 rfl 1 rfl ?_
      refine g_iload C dL_law_1997 5 rfl ?_
      refine g_iconst (v := 2) C dL_law_1999 (by decide) ?_
      refine g_iadd C dL_law_2000 ?_
      refine g_ialdX C hX hbl hbA q2.1 dL_law_2001 ?_
      rw [q2.2]
      refine g_cVi (n := 2) (exc := []) (exr := []) C [_, _] _ rfl rfl [] [] rfl rfl rfl rfl (fun _ _ h => absurd h (by simp)) (fun _ h => absurd h (by simp)) (fun _ h => absurd h (by simp)) (fun sz => zk_out l μ ν a Ad hI.2.2 w x1 x2 q hq D E sz) rfl gw_1782 gw_9 gw_1779 gw_1780 gw_1781 ⟨by decide +kernel, by decide +kernel, by decide +kernel⟩ ⟨rfl, rfl⟩ ⟨Nat.le_of_ble_eq_true rfl, Nat.le_of_ble_eq_true rfl⟩ (rcvT ⟨hI.2.2.1, fun e => absurd e (by decide)⟩ rfl rfl rfl) (Nat.le_of_ble_eq_true rfl) dL_law_2002 (rm_hf (by omega) (by omega)) (fun r9 u hp hx => ?_)
      obtain ⟨er9, rfl⟩ := hp
      rw [er9]
      try dsimp only [List.nil_append]
      refine g_istore (lv' := [(6, .int q.2), (5, .int 1), (0, .ref b), (1, .ref (Ad 0 0)), (2, .ref (Ad 40 0)), (3, .ref (Ad 90 0)), (4, .int i)]) C dL_law_2005 (by decide) rfl ?_
      refine g_aload_n C dL_law_2007 rfl 4 rfl ?_
      refine g_cVi (n := 0) (exc := []) (exr := []) C [] _ rfl rfl [] [] rfl rfl rfl rfl (fun _ _ h => absurd h (by simp)) (fun _ h => absurd h (by simp)) (fun _ h => absurd h (by simp)) (fun sz => zk_thrown l μ ν q.1 Ad hI.2.2 w  t ht D E sz) rfl gw_1468 gw_9 gw_1465 gw_1466 gw_1467 ⟨by decide +kernel, by decide +kernel, by decide +kernel⟩ ⟨rfl, rfl⟩ ⟨Nat.le_of_ble_eq_true rfl, Nat.le_of_ble_eq_true rfl⟩ (rcvT ⟨hI.2.2.1, fun e => absurd e (by decide)⟩ rfl rfl rfl) (Nat.le_of_ble_eq_true rfl) dL_law_2008 (rm_hf (by omega) (by omega)) (fun r9 u hp hx => ?_)
      obtain ⟨er9, rfl⟩ := hp
      rw [er9]
      try dsimp only [List.nil_append]
      refine g_iload C dL_law_2011 1 rfl ?_
      refine g_icmp_eq (tgt := 2018) C dL_law_2013 (by decide) (fun c1 => ?_) (fun c1 => absurd e1 c1)
      refine g_iload C dL_law_2018 1 rfl ?_
      refine g_if_ne (tgt := 2035) C dL_law_2020 (by decide) (fun c2 => ?_) (fun c2 => absurd c2 (by decide))
      refine g_goto (tgt := 2215) C dL_law_2035 (by decide) ?_
      refine g_lv (lv' := [(0, .ref b), (1, .ref (Ad 0 0)), (2, .ref (Ad 40 0)), (3, .ref (Ad 90 0)), (4, .int i)]) [2, 3, 4, 5, 6] rfl ?_
      refine g_widen (k := cells + (kc ν - kc ν) + 1) (n := slots + (ks ν - ks ν) + 6) (by omega) (by omega) ?_
      exact kk Ad (mn_rfl _) (kp_rfl _ _)
    · exact cd_nil ec
noncomputable def s_venues (w : Nat) (μ : MP) (ν : NC) (a : AS) (x1 : Int32) : Option ((MP × NC) × AS) := (f_X8_venues w μ ν x1).bind fun r => (f_X9_venues w a x1).bind fun q => (f_X9_thrown w q.1).bind fun t => lwq true [(1, 1)] μ ν (r.1, ((μ, ν), r.2)) q t
set_option maxHeartbeats 4000000 in
set_option maxRecDepth 100000 in
theorem w_venues {p : Program} {l : Launch} {e : Env} {s : State} {m : MethodId} {args : Array Value} {below : List Frame} {meth : Method} {c : Code} {D : va_G} {E : Nat → ClassId} {A : Nat → Prop} {Q : State → Prop} {B : Nat × (Nat → Nat)} {a30 a31 : Nat} {μ : MP} {ν : NC} {a : AS} {Ad : Nat → Nat → Nat} {w : Nat} {b L : Nat} {xs : Nat → Int32} {cells slots : Nat} (C : cx p s m args meth c D E A cL_law 7 "TradeLineLaw") (hEv : eV a30 a31 B A s s.heap) (hN : vN s) (hl : l.stackTraces = false) (hI : lwI ν) (h3 : Ad 30 0 = a30 ∧ Ad 31 0 = a31) (hX : va_X b L xs s s.heap) (hbl : b < s.heap.size) (hbA : ¬ A b) {i x1 : Int32} (q1 : vp_in (i + 1) L ∧ xs (i + 1).toNatClampNeg = x1) {S : (MP × NC) × AS} (h : s_venues w μ ν a x1 = some S) (hf : cells + (kc S.1.2 - kc ν) + 1 ≤ 299000 ∧ slots + (ks S.1.2 - ks ν) + 6 ≤ 3090000) (kk : ∀ A1, mn ν S.1.2 → kp ν Ad A1 → G p l e room_1 s m args below meth c D E A 7 Q (zS S.1.1 S.1.2 S.2 A1) [] (cells + (kc S.1.2 - kc ν) + 1) (slots + (ks S.1.2 - ks ν) + 6) 2215 [(0, .ref b), (1, .ref (A1 0 0)), (2, .ref (A1 40 0)), (3, .ref (A1 90 0)), (4, .int i)] []) : G p l e room_1 s m args below meth c D E A 7 Q (zS μ ν a Ad) [] (cells) (slots) 2038 [(0, .ref b), (1, .ref (Ad 0 0)), (2, .ref (Ad 40 0)), (3, .ref (Ad 90 0)), (4, .int i)] [] := by
  unfold s_venues at h
  obtain ⟨r, hr, h⟩ := bind_of h
  obtain ⟨q, hq, h⟩ := bind_of h
  obtain ⟨t, ht, h⟩ := bind_of h
  rcases lwq_t h with ⟨e0, e1, e2, rfl⟩ | ⟨ec, rfl⟩
  · replace e0 : r.1 = 0 := e0
    have hf1 : cells + (kc ν - kc ν) + 1 ≤ 299000 := hf.1
    have hf2 : slots + (ks ν - ks ν) + 6 ≤ 3090000 := hf.2
    refine g_aload_n C dL_law_2038 rfl 1 rfl ?_
    refine g_aload_n C dL_law_2039 rfl 0 rfl ?_
    refine g_iload C dL_law_2040 4 rfl ?_
    refine g_iconst (v := 1) C dL_law_2042 (by decide) ?_
    refine g_iadd C dL_law_2043 ?_
    refine g_ialdX C hX hbl hbA q1.1 dL_law_2044 ?_
    rw [q1.2]
    refine g_aload_n C dL_law_2045 rfl 3 rfl ?_
    refine g_cSh (n := 3) (exr := []) C hEv hN h3 [_, _, _] _ rfl rfl [] rfl rfl (fun sz => r_L_venues l B μ ν a Ad w x1 r.2 (thr0 hr e0) hI.1 hI.2.1 D E sz) rfl gh_venues gw_0 gw_1299 gw_1300 ⟨by decide +kernel, by decide +kernel, by decide +kernel⟩ ⟨rfl, rfl⟩ ⟨Nat.le_of_ble_eq_true rfl, Nat.le_of_ble_eq_true rfl⟩ (Nat.le_of_ble_eq_true rfl) dL_law_2046 (rm_hf (by omega) (by omega)) (fun r8 u hp hx => ?_)
    obtain ⟨er8, rfl⟩ := hp
    rw [er8]
    try dsimp only [List.nil_append]
    refine g_istore (lv' := [(5, .int 0), (0, .ref b), (1, .ref (Ad 0 0)), (2, .ref (Ad 40 0)), (3, .ref (Ad 90 0)), (4, .int i)]) C dL_law_2049 (by decide) rfl ?_
    refine g_aload_n C dL_law_2051 rfl 3 rfl ?_
    refine g_aload_n C dL_law_2052 rfl 1 rfl ?_
    refine g_iload C dL_law_2053 5 rfl ?_
    refine g_iconst (v := 1) C dL_law_2055 (by decide) ?_
    refine g_iadd C dL_law_2056 ?_
    refine g_ialdX C hX hbl hbA q1.1 dL_law_2057 ?_
    rw [q1.2]
    refine g_cVi (n := 1) (exc := []) (exr := []) C [_] _ rfl rfl [] [] rfl rfl rfl rfl (fun _ _ h => absurd h (by simp)) (fun _ h => absurd h (by simp)) (fun _ h => absurd h (by simp)) (fun sz => zk_venues l (up3 μ.1 90 0 0 r.2, μ.2) ν a Ad hI.2.2 w x1 q hq D E sz) rfl gw_1786 gw_9 gw_1783 gw_1784 gw_1785 ⟨by decide +kernel, by decide +kernel, by decide +kernel⟩ ⟨rfl, rfl⟩ ⟨Nat.le_of_ble_eq_true rfl, Nat.le_of_ble_eq_true rfl⟩ (rcvT ⟨hI.2.2.1, fun e => absurd e (by decide)⟩ rfl rfl rfl) (Nat.le_of_ble_eq_true rfl) dL_law_2058 (rm_hf (by omega) (by omega)) (fun r9 u hp hx => ?_)
    obtain ⟨er9, rfl⟩ := hp
    rw [er9]
    try dsimp only [List.nil_append]
    refine g_istore (lv' := [(6, .int q.2), (5, .int 0), (0, .ref b), (1, .ref (Ad 0 0)), (2, .ref (Ad 40 0)), (3, .ref (Ad 90 0)), (4, .int i)]) C dL_law_2061 (by decide) rfl ?_
    refine g_aload_n C dL_law_2063 rfl 4 rfl ?_
    refine g_cVi (n := 0) (exc := []) (exr := []) C [] _ rfl rfl [] [] rfl rfl rfl rfl (fun _ _ h => absurd h (by simp)) (fun _ h => absurd h (by simp)) (fun _ h => absurd h (by simp)) (fun sz => zk_thrown l (up3 μ.1 90 0 0 r.2, μ.2) ν q.1 Ad hI.2.2 w  t ht D E sz) rfl gw_1468 gw_9 gw_1465 gw_1466 gw_1467 ⟨by decide +kernel, by decide +kernel, by decide +kernel⟩ ⟨rfl, rfl⟩ ⟨Nat.le_of_ble_eq_true rfl, Nat.le_of_ble_eq_true rfl⟩ (rcvT ⟨hI.2.2.1, fun e => absurd e (by decide)⟩ rfl rfl rfl) (Nat.le_of_ble_eq_true rfl) dL_law_2064 (rm_hf (by omega) (by omega)) (fun r9 u hp hx => ?_)
    obtain ⟨er9, rfl⟩ := hp
    rw [er9]
    try dsimp only [List.nil_append]
    refine g_iload C dL_law_2067 1 rfl ?_
    refine g_icmp_eq (tgt := 2074) C dL_law_2069 (by decide) (fun c1 => ?_) (fun c1 => absurd e1 c1)
    refine g_iload C dL_law_2074 1 rfl ?_
    refine g_if_ne (tgt := 2091) C dL_law_2076 (by decide) (fun c2 => absurd rfl c2) (fun c2 => ?_)
    refine g_aload_n C dL_law_2079 rfl 5 rfl ?_
    refine g_iconst (v := 0) C dL_law_2080 (by decide) ?_
    refine g_lald (μ := (up3 μ.1 90 0 0 r.2, μ.2)) (ν := ν) (a := q.1) (Ad := Ad) C rfl hI.2.1 dL_law_2081 ?_
    refine g_iload C dL_law_2082 0 rfl ?_
    refine g_i2l C dL_law_2084 rfl ?_
    refine g_lcmp C dL_law_2085 (fun r7 e7 => ?_)
    refine g_if_eq (tgt := 2091) C dL_law_2086 (by decide) (fun c3 => ?_) (fun c3 => absurd (e7.mpr (congrArg Int32.toInt64 (show up3 μ.1 90 0 0 r.2 90 0 0 = _ from (up3_90 _ _).trans e2))) c3)
    refine g_goto (tgt := 2215) C dL_law_2091 (by decide) ?_
    refine g_lv (lv' := [(0, .ref b), (1, .ref (Ad 0 0)), (2, .ref (Ad 40 0)), (3, .ref (Ad 90 0)), (4, .int i)]) [2, 3, 4, 5, 6] rfl ?_
    refine g_widen (k := cells + (kc ν - kc ν) + 1) (n := slots + (ks ν - ks ν) + 6) (by omega) (by omega) ?_
    exact kk Ad (mn_rfl _) (kp_rfl _ _)
  · rcases cd_cons ec with ⟨e0, e1⟩ | ec
    · have hf1 : cells + (kc ν - kc ν) + 1 ≤ 299000 := hf.1
      have hf2 : slots + (ks ν - ks ν) + 6 ≤ 3090000 := hf.2
      refine g_aload_n C dL_law_2038 rfl 1 rfl ?_
      refine g_aload_n C dL_law_2039 rfl 0 rfl ?_
      refine g_iload C dL_law_2040 4 rfl ?_
      refine g_iconst (v := 1) C dL_law_2042 (by decide) ?_
      refine g_iadd C dL_law_2043 ?_
      refine g_ialdX C hX hbl hbA q1.1 dL_law_2044 ?_
      rw [q1.2]
      refine g_aload_n C dL_law_2045 rfl 3 rfl ?_
      refine g_cSh (n := 3) (exr := []) C hEv hN h3 [_, _, _] _ rfl rfl [] rfl rfl (fun sz => e1_L_venues l hl B μ ν a Ad w x1 r.2 (thrS hr e0) hI.1 hI.2.1 D E sz) rfl gh_venues gw_0 gw_1299 gw_1300 ⟨by decide +kernel, by decide +kernel, by decide +kernel⟩ ⟨rfl, rfl⟩ ⟨Nat.le_of_ble_eq_true rfl, Nat.le_of_ble_eq_true rfl⟩ (Nat.le_of_ble_eq_true rfl) dL_law_2046 (rm_hf (by omega) (by omega)) (fun r8 u hp hx => ?_)
      obtain ⟨er8, rfl⟩ := hp
      rw [er8]
      try dsimp only [List.nil_append]
      refine g_istore (lv' := [(5, .int 1), (0, .ref b), (1, .ref (Ad 0 0)), (2, .ref (Ad 40 0)), (3, .ref (Ad 90 0)), (4, .int i)]) C dL_law_2049 (by decide) rfl ?_
      refine g_aload_n C dL_law_2051 rfl 3 rfl ?_
      refine g_aload_n C dL_law_2052 rfl 1 rfl ?_
      refine g_iload C dL_law_2053 5 rfl ?_
      refine g_iconst (v := 1) C dL_law_2055 (by decide) ?_
      refine g_iadd C dL_law_2056 ?_
      refine g_ialdX C hX hbl hbA q1.1 dL_law_2057 ?_
      rw [q1.2]
      refine g_cVi (n := 1) (exc := []) (exr := []) C [_] _ rfl rfl [] [] rfl rfl rfl rfl (fun _ _ h => absurd h (by simp)) (fun _ h => absurd h (by simp)) (fun _ h => absurd h (by simp)) (fun sz => zk_venues l μ ν a Ad hI.2.2 w x1 q hq D E sz) rfl gw_1786 gw_9 gw_1783 gw_1784 gw_1785 ⟨by decide +kernel, by decide +kernel, by decide +kernel⟩ ⟨rfl, rfl⟩ ⟨Nat.le_of_ble_eq_true rfl, Nat.le_of_ble_eq_true rfl⟩ (rcvT ⟨hI.2.2.1, fun e => absurd e (by decide)⟩ rfl rfl rfl) (Nat.le_of_ble_eq_true rfl) dL_law_2058 (rm_hf (by omega) (by omega)) (fun r9 u hp hx => ?_)
      obtain ⟨er9, rfl⟩ := hp
      rw [er9]
      try dsimp only [List.nil_append]
      refine g_istore (lv' := [(6, .int q.2), (5, .int 1), (0, .ref b), (1, .ref (Ad 0 0)), (2, .ref (Ad 40 0)), (3, .ref (Ad 90 0)), (4, .int i)]) C dL_law_2061 (by decide) rfl ?_
      refine g_aload_n C dL_law_2063 rfl 4 rfl ?_
      refine g_cVi (n := 0) (exc := []) (exr := []) C [] _ rfl rfl [] [] rfl rfl rfl rfl (fun _ _ h => absurd h (by simp)) (fun _ h => absurd h (by simp)) (fun _ h => absurd h (by simp)) (fun sz => zk_thrown l μ ν q.1 Ad hI.2.2 w  t ht D E sz) rfl gw_1468 gw_9 gw_1465 gw_1466 gw_1467 ⟨by decide +kernel, by decide +kernel, by decide +kernel⟩ ⟨rfl, rfl⟩ ⟨Nat.le_of_ble_eq_true rfl, Nat.le_of_ble_eq_true rfl⟩ (rcvT ⟨hI.2.2.1, fun e => absurd e (by decide)⟩ rfl rfl rfl) (Nat.le_of_ble_eq_true rfl) dL_law_2064 (rm_hf (by omega) (by omega)) (fun r9 u hp hx => ?_)
      obtain ⟨er9, rfl⟩ := hp
      rw [er9]
      try dsimp only [List.nil_append]
      refine g_iload C dL_law_2067 1 rfl ?_
      refine g_icmp_eq (tgt := 2074) C dL_law_2069 (by decide) (fun c1 => ?_) (fun c1 => absurd e1 c1)
      refine g_iload C dL_law_2074 1 rfl ?_
      refine g_if_ne (tgt := 2091) C dL_law_2076 (by decide) (fun c2 => ?_) (fun c2 => absurd c2 (by decide))
      refine g_goto (tgt := 2215) C dL_law_2091 (by decide) ?_
      refine g_lv (lv' := [(0, .ref b), (1, .ref (Ad 0 0)), (2, .ref (Ad 40 0)), (3, .ref (Ad 90 0)), (4, .int i)]) [2, 3, 4, 5, 6] rfl ?_
      refine g_widen (k := cells + (kc ν - kc ν) + 1) (n := slots + (ks ν - ks ν) + 6) (by omega) (by omega) ?_
      exact kk Ad (mn_rfl _) (kp_rfl _ _)
    · exact cd_nil ec
noncomputable def s_total (w : Nat) (μ : MP) (ν : NC) (a : AS) (x1 : Int32) (x2 : Int32) (x3 : Int32) (x4 : Int32) : Option ((MP × NC) × AS) := (f_X8_total w μ ν x1 x2 (nz x3) x4).bind fun r => (f_X9_total w a x1 x2 (nz x3) x4).bind fun q => (f_X9_thrown w q.1).bind fun t => lwq true [(1, 1), (2, 2)] μ ν (r.1, ((μ, ν), r.2)) q t
set_option maxHeartbeats 4000000 in
set_option maxRecDepth 100000 in
theorem w_total {p : Program} {l : Launch} {e : Env} {s : State} {m : MethodId} {args : Array Value} {below : List Frame} {meth : Method} {c : Code} {D : va_G} {E : Nat → ClassId} {A : Nat → Prop} {Q : State → Prop} {B : Nat × (Nat → Nat)} {a30 a31 : Nat} {μ : MP} {ν : NC} {a : AS} {Ad : Nat → Nat → Nat} {w : Nat} {b L : Nat} {xs : Nat → Int32} {cells slots : Nat} (C : cx p s m args meth c D E A cL_law 7 "TradeLineLaw") (hEv : eV a30 a31 B A s s.heap) (hN : vN s) (hl : l.stackTraces = false) (hI : lwI ν) (h3 : Ad 30 0 = a30 ∧ Ad 31 0 = a31) (hX : va_X b L xs s s.heap) (hbl : b < s.heap.size) (hbA : ¬ A b) {i x1 x2 x3 x4 : Int32} (q1 : vp_in (i + 1) L ∧ xs (i + 1).toNatClampNeg = x1) (q2 : vp_in (i + 2) L ∧ xs (i + 2).toNatClampNeg = x2) (q3 : vp_in (i + 3) L ∧ xs (i + 3).toNatClampNeg = x3) (q4 : vp_in (i + 4) L ∧ xs (i + 4).toNatClampNeg = x4) {S : (MP × NC) × AS} (h : s_total w μ ν a x1 x2 x3 x4 = some S) (hf : cells + (kc S.1.2 - kc ν) + 1 ≤ 299000 ∧ slots + (ks S.1.2 - ks ν) + 6 ≤ 3090000) (kk : ∀ A1, mn ν S.1.2 → kp ν Ad A1 → G p l e room_1 s m args below meth c D E A 7 Q (zS S.1.1 S.1.2 S.2 A1) [] (cells + (kc S.1.2 - kc ν) + 1) (slots + (ks S.1.2 - ks ν) + 6) 2215 [(0, .ref b), (1, .ref (A1 0 0)), (2, .ref (A1 40 0)), (3, .ref (A1 90 0)), (4, .int i)] []) : G p l e room_1 s m args below meth c D E A 7 Q (zS μ ν a Ad) [] (cells) (slots) 2094 [(0, .ref b), (1, .ref (Ad 0 0)), (2, .ref (Ad 40 0)), (3, .ref (Ad 90 0)), (4, .int i)] [] := by
  unfold s_total at h
  obtain ⟨r, hr, h⟩ := bind_of h
  obtain ⟨q, hq, h⟩ := bind_of h
  obtain ⟨t, ht, h⟩ := bind_of h
  rcases lwq_t h with ⟨e0, e1, e2, rfl⟩ | ⟨ec, rfl⟩
  · replace e0 : r.1 = 0 := e0
    have hf1 : cells + (kc ν - kc ν) + 1 ≤ 299000 := hf.1
    have hf2 : slots + (ks ν - ks ν) + 6 ≤ 3090000 := hf.2
    refine g_aload_n C dL_law_2094 rfl 1 rfl ?_
    refine g_aload_n C dL_law_2095 rfl 0 rfl ?_
    refine g_iload C dL_law_2096 4 rfl ?_
    refine g_iconst (v := 1) C dL_law_2098 (by decide) ?_
    refine g_iadd C dL_law_2099 ?_
    refine g_ialdX C hX hbl hbA q1.1 dL_law_2100 ?_
    rw [q1.2]
    refine g_aload_n C dL_law_2101 rfl 0 rfl ?_
    refine g_iload C dL_law_2102 4 rfl ?_
    refine g_iconst (v := 2) C dL_law_2104 (by decide) ?_
    refine g_iadd C dL_law_2105 ?_
    refine g_ialdX C hX hbl hbA q2.1 dL_law_2106 ?_
    rw [q2.2]
    refine g_aload_n C dL_law_2107 rfl 0 rfl ?_
    refine g_iload C dL_law_2108 4 rfl ?_
    refine g_iconst (v := 3) C dL_law_2110 (by decide) ?_
    refine g_iadd C dL_law_2111 ?_
    refine g_ialdX C hX hbl hbA q3.1 dL_law_2112 ?_
    rw [q3.2]
    refine g_nz C dL_law_2113 dL_law_2116 dL_law_2117 dL_law_2120 ?_
    refine g_aload_n C dL_law_2121 rfl 0 rfl ?_
    refine g_iload C dL_law_2122 4 rfl ?_
    refine g_iconst (v := 4) C dL_law_2124 (by decide) ?_
    refine g_iadd C dL_law_2125 ?_
    refine g_ialdX C hX hbl hbA q4.1 dL_law_2126 ?_
    rw [q4.2]
    refine g_aload_n C dL_law_2127 rfl 3 rfl ?_
    refine g_cSh (n := 6) (exr := []) C hEv hN h3 [_, _, _, _, _, _] _ rfl rfl [] rfl rfl (fun sz => r_L_total l B μ ν a Ad w x1 x2 (nz x3) x4 r.2 (thr0 hr e0) hI.1 hI.2.1 D E sz) rfl gh_total gw_0 gw_1310 gw_1311 ⟨by decide +kernel, by decide +kernel, by decide +kernel⟩ ⟨rfl, rfl⟩ ⟨Nat.le_of_ble_eq_true rfl, Nat.le_of_ble_eq_true rfl⟩ (Nat.le_of_ble_eq_true rfl) dL_law_2128 (rm_hf (by omega) (by omega)) (fun r8 u hp hx => ?_)
    obtain ⟨er8, rfl⟩ := hp
    rw [er8]
    try dsimp only [List.nil_append]
    refine g_istore (lv' := [(5, .int 0), (0, .ref b), (1, .ref (Ad 0 0)), (2, .ref (Ad 40 0)), (3, .ref (Ad 90 0)), (4, .int i)]) C dL_law_2131 (by decide) rfl ?_
    refine g_aload_n C dL_law_2133 rfl 3 rfl ?_
    refine g_aload_n C dL_law_2134 rfl 1 rfl ?_
    refine g_iload C dL_law_2135 5 rfl ?_
    refine g_iconst (v := 1) C dL_law_2137 (by decide) ?_
    refine g_iadd C dL_law_2138 ?_
    refine g_ialdX C hX hbl hbA q1.1 dL_law_2139 ?_
    rw [q1.2]
    refine g_aload_n C dL_law_2140 rfl 1 rfl ?_
    refine g_iload C dL_law_2141 5 rfl ?_
    refine g_iconst (v := 2) C dL_law_2143 (by decide) ?_
    refine g_iadd C dL_law_2144 ?_
    refine g_ialdX C hX hbl hbA q2.1 dL_law_2145 ?_
    rw [q2.2]
    refine g_aload_n C dL_law_2146 rfl 1 rfl ?_
    refine g_iload C dL_law_2147 5 rfl ?_
    refine g_iconst (v := 3) C dL_law_2149 (by decide) ?_
    refine g_iadd C dL_law_2150 ?_
    refine g_ialdX C hX hbl hbA q3.1 dL_law_2151 ?_
    rw [q3.2]
    refine g_nz C dL_law_2152 dL_law_2155 dL_law_2156 dL_law_2159 ?_
    refine g_aload_n C dL_law_2160 rfl 1 rfl ?_
    refine g_iload C dL_law_2161 5 rfl ?_
    refine g_iconst (v := 4) C dL_law_2163 (by decide) ?_
    refine g_iadd C dL_law_2164 ?_
    refine g_ialdX C hX hbl hbA q4.1 dL_law_2165 ?_
    rw [q4.2]
    refine g_cVi (n := 4) (exc := []) (exr := []) C [_, _, _, _] _ rfl rfl [] [] rfl rfl rfl rfl (fun _ _ h => absurd h (by simp)) (fun _ h => absurd h (by simp)) (fun _ h => absurd h (by simp)) (fun sz => zk_total l (up3 μ.1 90 0 0 r.2, μ.2) ν a Ad hI.2.2 w x1 x2 (nz x3) x4 q hq D E sz) rfl gw_1790 gw_9 gw_1787 gw_1788 gw_1789 ⟨by decide +kernel, by decide +kernel, by decide +kernel⟩ ⟨rfl, rfl⟩ ⟨Nat.le_of_ble_eq_true rfl, Nat.le_of_ble_eq_true rfl⟩ (rcvT ⟨hI.2.2.1, fun e => absurd e (by decide)⟩ rfl rfl rfl) (Nat.le_of_ble_eq_true rfl) dL_law_2166 (rm_hf (by omega) (by omega)) (fun r9 u hp hx => ?_)
    obtain ⟨er9, rfl⟩ := hp
    rw [er9]
    try dsimp only [List.nil_append]
    refine g_istore (lv' := [(6, .int q.2), (5, .int 0), (0, .ref b), (1, .ref (Ad 0 0)), (2, .ref (Ad 40 0)), (3, .ref (Ad 90 0)), (4, .int i)]) C dL_law_2169 (by decide) rfl ?_
    refine g_aload_n C dL_law_2171 rfl 4 rfl ?_
    refine g_cVi (n := 0) (exc := []) (exr := []) C [] _ rfl rfl [] [] rfl rfl rfl rfl (fun _ _ h => absurd h (by simp)) (fun _ h => absurd h (by simp)) (fun _ h => absurd h (by simp)) (fun sz => zk_thrown l (up3 μ.1 90 0 0 r.2, μ.2) ν q.1 Ad hI.2.2 w  t ht D E sz) rfl gw_1468 gw_9 gw_1465 gw_1466 gw_1467 ⟨by decide +kernel, by decide +kernel, by decide +kernel⟩ ⟨rfl, rfl⟩ ⟨Nat.le_of_ble_eq_true rfl, Nat.le_of_ble_eq_true rfl⟩ (rcvT ⟨hI.2.2.1, fun e => absurd e (by decide)⟩ rfl rfl rfl) (Nat.le_of_ble_eq_true rfl) dL_law_2172 (rm_hf (by omega) (by omega)) (fun r9 u hp hx => ?_)
    obtain ⟨er9, rfl⟩ := hp
    rw [er9]
    try dsimp only [List.nil_append]
    refine g_iload C dL_law_2175 1 rfl ?_
    refine g_icmp_eq (tgt := 2182) C dL_law_2177 (by decide) (fun c1 => ?_) (fun c1 => absurd e1 c1)
    refine g_iload C dL_law_2182 1 rfl ?_
    refine g_if_ne (tgt := 2199) C dL_law_2184 (by decide) (fun c2 => absurd rfl c2) (fun c2 => ?_)
    refine g_aload_n C dL_law_2187 rfl 5 rfl ?_
    refine g_iconst (v := 0) C dL_law_2188 (by decide) ?_
    refine g_lald (μ := (up3 μ.1 90 0 0 r.2, μ.2)) (ν := ν) (a := q.1) (Ad := Ad) C rfl hI.2.1 dL_law_2189 ?_
    refine g_iload C dL_law_2190 0 rfl ?_
    refine g_i2l C dL_law_2192 rfl ?_
    refine g_lcmp C dL_law_2193 (fun r7 e7 => ?_)
    refine g_if_eq (tgt := 2199) C dL_law_2194 (by decide) (fun c3 => ?_) (fun c3 => absurd (e7.mpr (congrArg Int32.toInt64 (show up3 μ.1 90 0 0 r.2 90 0 0 = _ from (up3_90 _ _).trans e2))) c3)
    refine g_goto (tgt := 2215) C dL_law_2199 (by decide) ?_
    refine g_lv (lv' := [(0, .ref b), (1, .ref (Ad 0 0)), (2, .ref (Ad 40 0)), (3, .ref (Ad 90 0)), (4, .int i)]) [2, 3, 4, 5, 6] rfl ?_
    refine g_widen (k := cells + (kc ν - kc ν) + 1) (n := slots + (ks ν - ks ν) + 6) (by omega) (by omega) ?_
    exact kk Ad (mn_rfl _) (kp_rfl _ _)
  · rcases cd_cons ec with ⟨e0, e1⟩ | ec
    · have hf1 : cells + (kc ν - kc ν) + 1 ≤ 299000 := hf.1
      have hf2 : slots + (ks ν - ks ν) + 6 ≤ 3090000 := hf.2
      refine g_aload_n C dL_law_2094 rfl 1 rfl ?_
      refine g_aload_n C dL_law_2095 rfl 0 rfl ?_
      refine g_iload C dL_law_2096 4 rfl ?_
      refine g_iconst (v := 1) C dL_law_2098 (by decide) ?_
      refine g_iadd C dL_law_2099 ?_
      refine g_ialdX C hX hbl hbA q1.1 dL_law_2100 ?_
      rw [q1.2]
      refine g_aload_n C dL_law_2101 rfl 0 rfl ?_
      refine g_iload C dL_law_2102 4 rfl ?_
      refine g_iconst (v := 2) C dL_law_2104 (by decide) ?_
      refine g_iadd C dL_law_2105 ?_
      refine g_ialdX C hX hbl hbA q2.1 dL_law_2106 ?_
      rw [q2.2]
      refine g_aload_n C dL_law_2107 rfl 0 rfl ?_
      refine g_iload C dL_law_2108 4 rfl ?_
      refine g_iconst (v := 3) C dL_law_2110 (by decide) ?_
      refine g_iadd C dL_law_2111 ?_
      refine g_ialdX C hX hbl hbA q3.1 dL_law_2112 ?_
      rw [q3.2]
      refine g_nz C dL_law_2113 dL_law_2116 dL_law_2117 dL_law_2120 ?_
      refine g_aload_n C dL_law_2121 rfl 0 rfl ?_
      refine g_iload C dL_law_2122 4 rfl ?_
      refine g_iconst (v := 4) C dL_law_2124 (by decide) ?_
      refine g_iadd C dL_law_2125 ?_
      refine g_ialdX C hX hbl hbA q4.1 dL_law_2126 ?_
      rw [q4.2]
      refine g_aload_n C dL_law_2127 rfl 3 rfl ?_
      refine g_cSh (n := 6) (exr := []) C hEv hN h3 [_, _, _, _, _, _] _ rfl rfl [] rfl rfl (fun sz => e1_L_total l hl B μ ν a Ad w x1 x2 (nz x3) x4 r.2 (thrS hr e0) hI.1 hI.2.1 D E sz) rfl gh_total gw_0 gw_1310 gw_1311 ⟨by decide +kernel, by decide +kernel, by decide +kernel⟩ ⟨rfl, rfl⟩ ⟨Nat.le_of_ble_eq_true rfl, Nat.le_of_ble_eq_true rfl⟩ (Nat.le_of_ble_eq_true rfl) dL_law_2128 (rm_hf (by omega) (by omega)) (fun r8 u hp hx => ?_)
      obtain ⟨er8, rfl⟩ := hp
      rw [er8]
      try dsimp only [List.nil_append]
      refine g_istore (lv' := [(5, .int 1), (0, .ref b), (1, .ref (Ad 0 0)), (2, .ref (Ad 40 0)), (3, .ref (Ad 90 0)), (4, .int i)]) C dL_law_2131 (by decide) rfl ?_
      refine g_aload_n C dL_law_2133 rfl 3 rfl ?_
      refine g_aload_n C dL_law_2134 rfl 1 rfl ?_
      refine g_iload C dL_law_2135 5 rfl ?_
      refine g_iconst (v := 1) C dL_law_2137 (by decide) ?_
      refine g_iadd C dL_law_2138 ?_
      refine g_ialdX C hX hbl hbA q1.1 dL_law_2139 ?_
      rw [q1.2]
      refine g_aload_n C dL_law_2140 rfl 1 rfl ?_
      refine g_iload C dL_law_2141 5 rfl ?_
      refine g_iconst (v := 2) C dL_law_2143 (by decide) ?_
      refine g_iadd C dL_law_2144 ?_
      refine g_ialdX C hX hbl hbA q2.1 dL_law_2145 ?_
      rw [q2.2]
      refine g_aload_n C dL_law_2146 rfl 1 rfl ?_
      refine g_iload C dL_law_2147 5 rfl ?_
      refine g_iconst (v := 3) C dL_law_2149 (by decide) ?_
      refine g_iadd C dL_law_2150 ?_
      refine g_ialdX C hX hbl hbA q3.1 dL_law_2151 ?_
      rw [q3.2]
      refine g_nz C dL_law_2152 dL_law_2155 dL_law_2156 dL_law_2159 ?_
      refine g_aload_n C dL_law_2160 rfl 1 rfl ?_
      refine g_iload C dL_law_2161 5 rfl ?_
      refine g_iconst (v := 4) C dL_law_2163 (by decide) ?_
      refine g_iadd C dL_law_2164 ?_
      refine g_ialdX C hX hbl hbA q4.1 dL_law_2165 ?_
      rw [q4.2]
      refine g_cVi (n := 4) (exc := []) (exr := []) C [_, _, _, _] _ rfl rfl [] [] rfl rfl rfl rfl (fun _ _ h => absurd h (by simp)) (fun _ h => absurd h (by simp)) (fun _ h => absurd h (by simp)) (fun sz => zk_total l μ ν a Ad hI.2.2 w x1 x2 (nz x3) x4 q hq D E sz) rfl gw_1790 gw_9 gw_1787 gw_1788 gw_1789 ⟨by decide +kernel, by decide +kernel, by decide +kernel⟩ ⟨rfl, rfl⟩ ⟨Nat.le_of_ble_eq_true rfl, Nat.le_of_ble_eq_true rfl⟩ (rcvT ⟨hI.2.2.1, fun e => absurd e (by decide)⟩ rfl rfl rfl) (Nat.le_of_ble_eq_true rfl) dL_law_2166 (rm_hf (by omega) (by omega)) (fun r9 u hp hx => ?_)
      obtain ⟨er9, rfl⟩ := hp
      rw [er9]
      try dsimp only [List.nil_append]
      refine g_istore (lv' := [(6, .int q.2), (5, .int 1), (0, .ref b), (1, .ref (Ad 0 0)), (2, .ref (Ad 40 0)), (3, .ref (Ad 90 0)), (4, .int i)]) C dL_law_2169 (by decide) rfl ?_
      refine g_aload_n C dL_law_2171 rfl 4 rfl ?_
      refine g_cVi (n := 0) (exc := []) (exr := []) C [] _ rfl rfl [] [] rfl rfl rfl rfl (fun _ _ h => absurd h (by simp)) (fun _ h => absurd h (by simp)) (fun _ h => absurd h (by simp)) (fun sz => zk_thrown l μ ν q.1 Ad hI.2.2 w  t ht D E sz) rfl gw_1468 gw_9 gw_1465 gw_1466 gw_1467 ⟨by decide +kernel, by decide +kernel, by decide +kernel⟩ ⟨rfl, rfl⟩ ⟨Nat.le_of_ble_eq_true rfl, Nat.le_of_ble_eq_true rfl⟩ (rcvT ⟨hI.2.2.1, fun e => absurd e (by decide)⟩ rfl rfl rfl) (Nat.le_of_ble_eq_true rfl) dL_law_2172 (rm_hf (by omega) (by omega)) (fun r9 u hp hx => ?_)
      obtain ⟨er9, rfl⟩ := hp
      rw [er9]
      try dsimp only [List.nil_append]
      refine g_iload C dL_law_2175 1 rfl ?_
      refine g_icmp_eq (tgt := 2182) C dL_law_2177 (by decide) (fun c1 => ?_) (fun c1 => absurd e1 c1)
      refine g_iload C dL_law_2182 1 rfl ?_
      refine g_if_ne (tgt := 2199) C dL_law_2184 (by decide) (fun c2 => ?_) (fun c2 => absurd c2 (by decide))
      refine g_goto (tgt := 2215) C dL_law_2199 (by decide) ?_
      refine g_lv (lv' := [(0, .ref b), (1, .ref (Ad 0 0)), (2, .ref (Ad 40 0)), (3, .ref (Ad 90 0)), (4, .int i)]) [2, 3, 4, 5, 6] rfl ?_
      refine g_widen (k := cells + (kc ν - kc ν) + 1) (n := slots + (ks ν - ks ν) + 6) (by omega) (by omega) ?_
      exact kk Ad (mn_rfl _) (kp_rfl _ _)
    · skip
      rcases cd_cons ec with ⟨e0, e1⟩ | ec
      · have hf1 : cells + (kc ν - kc ν) + 1 ≤ 299000 := hf.1
        have hf2 : slots + (ks ν - ks ν) + 6 ≤ 3090000 := hf.2
        refine g_aload_n C dL_law_2094 rfl 1 rfl ?_
        refine g_aload_n C dL_law_2095 rfl 0 rfl ?_
        refine g_iload C dL_law_2096 4 rfl ?_
        refine g_iconst (v := 1) C dL_law_2098 (by decide) ?_
        refine g_iadd C dL_law_2099 ?_
        refine g_ialdX C hX hbl hbA q1.1 dL_law_2100 ?_
        rw [q1.2]
        refine g_aload_n C dL_law_2101 rfl 0 rfl ?_
        refine g_iload C dL_law_2102 4 rfl ?_
        refine g_iconst (v := 2) C dL_law_2104 (by decide) ?_
        refine g_iadd C dL_law_2105 ?_
        refine g_ialdX C hX hbl hbA q2.1 dL_law_2106 ?_
        rw [q2.2]
        refine g_aload_n C dL_law_2107 rfl 0 rfl ?_
        refine g_iload C dL_law_2108 4 rfl ?_
        refine g_iconst (v := 3) C dL_law_2110 (by decide) ?_
        refine g_iadd C dL_law_2111 ?_
        refine g_ialdX C hX hbl hbA q3.1 dL_law_2112 ?_
        rw [q3.2]
        refine g_nz C dL_law_2113 dL_law_2116 dL_law_2117 dL_law_2120 ?_
        refine g_aload_n C dL_law_2121 rfl 0 rfl ?_
        refine g_iload C dL_law_2122 4 rfl ?_
        refine g_iconst (v := 4) C dL_law_2124 (by decide) ?_
        refine g_iadd C dL_law_2125 ?_
        refine g_ialdX C hX hbl hbA q4.1 dL_law_2126 ?_
        rw [q4.2]
        refine g_aload_n C dL_law_2127 rfl 3 rfl ?_
        refine g_cSh (n := 6) (exr := []) C hEv hN h3 [_, _, _, _, _, _] _ rfl rfl [] rfl rfl (fun sz => e2_L_total l hl B μ ν a Ad w x1 x2 (nz x3) x4 r.2 (thrS hr e0) hI.1 hI.2.1 D E sz) rfl gh_total gw_0 gw_1310 gw_1311 ⟨by decide +kernel, by decide +kernel, by decide +kernel⟩ ⟨rfl, rfl⟩ ⟨Nat.le_of_ble_eq_true rfl, Nat.le_of_ble_eq_true rfl⟩ (Nat.le_of_ble_eq_true rfl) dL_law_2128 (rm_hf (by omega) (by omega)) (fun r8 u hp hx => ?_)
        obtain ⟨er8, rfl⟩ := hp
        rw [er8]
        try dsimp only [List.nil_append]
        refine g_istore (lv' := [(5, .int 2), (0, .ref b), (1, .ref (Ad 0 0)), (2, .ref (Ad 40 0)), (3, .ref (Ad 90 0)), (4, .int i)]) C dL_law_2131 (by decide) rfl ?_
        refine g_aload_n C dL_law_2133 rfl 3 rfl ?_
        refine g_aload_n C dL_law_2134 rfl 1 rfl ?_
        refine g_iload C dL_law_2135 5 rfl ?_
        refine g_iconst (v := 1) C dL_law_2137 (by decide) ?_
        refine g_iadd C dL_law_2138 ?_
        refine g_ialdX C hX hbl hbA q1.1 dL_law_2139 ?_
        rw [q1.2]
        refine g_aload_n C dL_law_2140 rfl 1 rfl ?_
        refine g_iload C dL_law_2141 5 rfl ?_
        refine g_iconst (v := 2) C dL_law_2143 (by decide) ?_
        refine g_iadd C dL_law_2144 ?_
        refine g_ialdX C hX hbl hbA q2.1 dL_law_2145 ?_
        rw [q2.2]
        refine g_aload_n C dL_law_2146 rfl 1 rfl ?_
        refine g_iload C dL_law_2147 5 rfl ?_
        refine g_iconst (v := 3) C dL_law_2149 (by decide) ?_
        refine g_iadd C dL_law_2150 ?_
        refine g_ialdX C hX hbl hbA q3.1 dL_law_2151 ?_
        rw [q3.2]
        refine g_nz C dL_law_2152 dL_law_2155 dL_law_2156 dL_law_2159 ?_
        refine g_aload_n C dL_law_2160 rfl 1 rfl ?_
        refine g_iload C dL_law_2161 5 rfl ?_
        refine g_iconst (v := 4) C dL_law_2163 (by decide) ?_
        refine g_iadd C dL_law_2164 ?_
        refine g_ialdX C hX hbl hbA q4.1 dL_law_2165 ?_
        rw [q4.2]
        refine g_cVi (n := 4) (exc := []) (exr := []) C [_, _, _, _] _ rfl rfl [] [] rfl rfl rfl rfl (fun _ _ h => absurd h (by simp)) (fun _ h => absurd h (by simp)) (fun _ h => absurd h (by simp)) (fun sz => zk_total l μ ν a Ad hI.2.2 w x1 x2 (nz x3) x4 q hq D E sz) rfl gw_1790 gw_9 gw_1787 gw_1788 gw_1789 ⟨by decide +kernel, by decide +kernel, by decide +kernel⟩ ⟨rfl, rfl⟩ ⟨Nat.le_of_ble_eq_true rfl, Nat.le_of_ble_eq_true rfl⟩ (rcvT ⟨hI.2.2.1, fun e => absurd e (by decide)⟩ rfl rfl rfl) (Nat.le_of_ble_eq_true rfl) dL_law_2166 (rm_hf (by omega) (by omega)) (fun r9 u hp hx => ?_)
        obtain ⟨er9, rfl⟩ := hp
        rw [er9]
        try dsimp only [List.nil_append]
        refine g_istore (lv' := [(6, .int q.2), (5, .int 2), (0, .ref b), (1, .ref (Ad 0 0)), (2, .ref (Ad 40 0)), (3, .ref (Ad 90 0)), (4, .int i)]) C dL_law_2169 (by decide) rfl ?_
        refine g_aload_n C dL_law_2171 rfl 4 rfl ?_
        refine g_cVi (n := 0) (exc := []) (exr := []) C [] _ rfl rfl [] [] rfl rfl rfl rfl (fun _ _ h => absurd h (by simp)) (fun _ h => absurd h (by simp)) (fun _ h => absurd h (by simp)) (fun sz => zk_thrown l μ ν q.1 Ad hI.2.2 w  t ht D E sz) rfl gw_1468 gw_9 gw_1465 gw_1466 gw_1467 ⟨by decide +kernel, by decide +kernel, by decide +kernel⟩ ⟨rfl, rfl⟩ ⟨Nat.le_of_ble_eq_true rfl, Nat.le_of_ble_eq_true rfl⟩ (rcvT ⟨hI.2.2.1, fun e => absurd e (by decide)⟩ rfl rfl rfl) (Nat.le_of_ble_eq_true rfl) dL_law_2172 (rm_hf (by omega) (by omega)) (fun r9 u hp hx => ?_)
        obtain ⟨er9, rfl⟩ := hp
        rw [er9]
        try dsimp only [List.nil_append]
        refine g_iload C dL_law_2175 1 rfl ?_
        refine g_icmp_eq (tgt := 2182) C dL_law_2177 (by decide) (fun c1 => ?_) (fun c1 => absurd e1 c1)
        refine g_iload C dL_law_2182 1 rfl ?_
        refine g_if_ne (tgt := 2199) C dL_law_2184 (by decide) (fun c2 => ?_) (fun c2 => absurd c2 (by decide))
        refine g_goto (tgt := 2215) C dL_law_2199 (by decide) ?_
        refine g_lv (lv' := [(0, .ref b), (1, .ref (Ad 0 0)), (2, .ref (Ad 40 0)), (3, .ref (Ad 90 0)), (4, .int i)]) [2, 3, 4, 5, 6] rfl ?_
        refine g_widen (k := cells + (kc ν - kc ν) + 1) (n := slots + (ks ν - ks ν) + 6) (by omega) (by omega) ?_
        exact kk Ad (mn_rfl _) (kp_rfl _ _)
      · exact cd_nil ec
noncomputable def s_agree (w : Nat) (μ : MP) (ν : NC) (a : AS) : Option ((MP × NC) × AS) := (f_X8_agree w μ ν).bind fun r => (f_X9_agree w a).bind fun q => if r = q.2 then some ((μ, ν), q.1) else none
set_option maxHeartbeats 4000000 in
set_option maxRecDepth 100000 in
theorem w_agree {p : Program} {l : Launch} {e : Env} {s : State} {m : MethodId} {args : Array Value} {below : List Frame} {meth : Method} {c : Code} {D : va_G} {E : Nat → ClassId} {A : Nat → Prop} {Q : State → Prop} {B : Nat × (Nat → Nat)} {a30 a31 : Nat} {μ : MP} {ν : NC} {a : AS} {Ad : Nat → Nat → Nat} {w : Nat} {b L : Nat} {xs : Nat → Int32} {cells slots : Nat} (C : cx p s m args meth c D E A cL_law 7 "TradeLineLaw") (hEv : eV a30 a31 B A s s.heap) (hN : vN s) (hl : l.stackTraces = false) (hI : lwI ν) (h3 : Ad 30 0 = a30 ∧ Ad 31 0 = a31) (hX : va_X b L xs s s.heap) (hbl : b < s.heap.size) (hbA : ¬ A b) {i : Int32} {S : (MP × NC) × AS} (h : s_agree w μ ν a = some S) (hf : cells + (kc S.1.2 - kc ν) + 1 ≤ 299000 ∧ slots + (ks S.1.2 - ks ν) + 6 ≤ 3090000) (kk : ∀ A1, mn ν S.1.2 → kp ν Ad A1 → G p l e room_1 s m args below meth c D E A 7 Q (zS S.1.1 S.1.2 S.2 A1) [] (cells + (kc S.1.2 - kc ν) + 1) (slots + (ks S.1.2 - ks ν) + 6) 2215 [(0, .ref b), (1, .ref (A1 0 0)), (2, .ref (A1 40 0)), (3, .ref (A1 90 0)), (4, .int i)] []) : G p l e room_1 s m args below meth c D E A 7 Q (zS μ ν a Ad) [] (cells) (slots) 2202 [(0, .ref b), (1, .ref (Ad 0 0)), (2, .ref (Ad 40 0)), (3, .ref (Ad 90 0)), (4, .int i)] [] := by
  unfold s_agree at h
  obtain ⟨r, hr, h⟩ := bind_of h
  obtain ⟨q, hq, h⟩ := bind_of h
  by_cases he : r = q.2
  · rw [if_pos he] at h
    obtain rfl := Option.some.inj h
    have hf1 : cells + (kc ν - kc ν) + 1 ≤ 299000 := hf.1
    have hf2 : slots + (ks ν - ks ν) + 6 ≤ 3090000 := hf.2
    refine g_aload_n C dL_law_2202 rfl 1 rfl ?_
    refine g_cVi (n := 0) (exc := []) (exr := []) C [] _ rfl rfl [] [] rfl rfl rfl rfl (fun _ _ h => absurd h (by simp)) (fun _ h => absurd h (by simp)) (fun _ h => absurd h (by simp)) (fun sz => c_X8_agree l μ ν a Ad w r hr D E sz) rfl gw_228 gw_1 gw_225 gw_226 gw_227 ⟨by decide +kernel, by decide +kernel, by decide +kernel⟩ ⟨rfl, rfl⟩ ⟨Nat.le_of_ble_eq_true rfl, Nat.le_of_ble_eq_true rfl⟩ (rcvT ⟨hI.1, fun e => absurd e (by decide)⟩ rfl rfl rfl) (Nat.le_of_ble_eq_true rfl) dL_law_2203 (rm_hf (by omega) (by omega)) (fun r9 u hp hx => ?_)
    obtain ⟨er9, rfl⟩ := hp
    rw [er9]
    try dsimp only [List.nil_append]
    refine g_aload_n C dL_law_2206 rfl 2 rfl ?_
    refine g_cVi (n := 0) (exc := []) (exr := []) C [] _ rfl rfl [] [] rfl rfl rfl rfl (fun _ _ h => absurd h (by simp)) (fun _ h => absurd h (by simp)) (fun _ h => absurd h (by simp)) (fun sz => zk_agree l μ ν a Ad hI.2.2 w  q hq D E sz) rfl gw_1794 gw_9 gw_1791 gw_1792 gw_1793 ⟨by decide +kernel, by decide +kernel, by decide +kernel⟩ ⟨rfl, rfl⟩ ⟨Nat.le_of_ble_eq_true rfl, Nat.le_of_ble_eq_true rfl⟩ (rcvT ⟨hI.2.2.1, fun e => absurd e (by decide)⟩ rfl rfl rfl) (Nat.le_of_ble_eq_true rfl) dL_law_2207 (rm_hf (by omega) (by omega)) (fun r9 u hp hx => ?_)
    obtain ⟨er9, rfl⟩ := hp
    rw [er9]
    try dsimp only [List.nil_append]
    refine g_icmp_eq (tgt := 2215) C dL_law_2210 (by decide) (fun c1 => ?_) (fun c1 => absurd he c1)
    refine g_widen (k := cells + (kc ν - kc ν) + 1) (n := slots + (ks ν - ks ν) + 6) (by omega) (by omega) ?_
    exact kk Ad (mn_rfl _) (kp_rfl _ _)
  · rw [if_neg he] at h; exact absurd h (by simp)
