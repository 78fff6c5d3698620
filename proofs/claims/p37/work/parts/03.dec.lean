theorem dX0_init_0 : decode cX0_init 0 = .ok (.aload_n 0, 1) := by decide +kernel
theorem dX0_init_1 : decode cX0_init 1 = .ok (.invokespecial 3, 3) := by decide +kernel
theorem dX0_init_4 : decode cX0_init 4 = .ok (.aload_n 0, 1) := by decide +kernel
theorem dX0_init_5 : decode cX0_init 5 = .ok (.bipush 32, 2) := by decide +kernel
theorem dX0_init_7 : decode cX0_init 7 = .ok (.newarray .int, 2) := by decide +kernel
theorem dX0_init_9 : decode cX0_init 9 = .ok (.putfield 9, 3) := by decide +kernel
theorem dX0_init_12 : decode cX0_init 12 = .ok (.return_, 1) := by decide +kernel
theorem dX0_hold_0 : decode cX0_hold 0 = .ok (.iload_n 1, 1) := by decide +kernel
theorem dX0_hold_1 : decode cX0_hold 1 = .ok (.ifCond .lt 9, 3) := by decide +kernel
theorem dX0_hold_4 : decode cX0_hold 4 = .ok (.iload_n 1, 1) := by decide +kernel
theorem dX0_hold_5 : decode cX0_hold 5 = .ok (.ldc 15, 2) := by decide +kernel
theorem dX0_hold_7 : decode cX0_hold 7 = .ok (.if_icmp .le 4, 3) := by decide +kernel
theorem dX0_hold_10 : decode cX0_hold 10 = .ok (.return_, 1) := by decide +kernel
theorem dX0_hold_11 : decode cX0_hold 11 = .ok (.iload_n 1, 1) := by decide +kernel
theorem dX0_hold_12 : decode cX0_hold 12 = .ok (.aload_n 0, 1) := by decide +kernel
theorem dX0_hold_13 : decode cX0_hold 13 = .ok (.getfield 9, 3) := by decide +kernel
theorem dX0_hold_16 : decode cX0_hold 16 = .ok (.arraylength, 1) := by decide +kernel
theorem dX0_hold_17 : decode cX0_hold 17 = .ok (.if_icmp .lt 17, 3) := by decide +kernel
theorem dX0_hold_20 : decode cX0_hold 20 = .ok (.aload_n 0, 1) := by decide +kernel
theorem dX0_hold_21 : decode cX0_hold 21 = .ok (.aload_n 0, 1) := by decide +kernel
theorem dX0_hold_22 : decode cX0_hold 22 = .ok (.getfield 9, 3) := by decide +kernel
theorem dX0_hold_25 : decode cX0_hold 25 = .ok (.iconst 2, 1) := by decide +kernel
theorem dX0_hold_26 : decode cX0_hold 26 = .ok (.iload_n 1, 1) := by decide +kernel
theorem dX0_hold_27 : decode cX0_hold 27 = .ok (.imul, 1) := by decide +kernel
theorem dX0_hold_28 : decode cX0_hold 28 = .ok (.invokestatic 16, 3) := by decide +kernel
theorem dX0_hold_31 : decode cX0_hold 31 = .ok (.putfield 9, 3) := by decide +kernel
theorem dX0_hold_34 : decode cX0_hold 34 = .ok (.aload_n 0, 1) := by decide +kernel
theorem dX0_hold_35 : decode cX0_hold 35 = .ok (.getfield 9, 3) := by decide +kernel
theorem dX0_hold_38 : decode cX0_hold 38 = .ok (.iload_n 1, 1) := by decide +kernel
theorem dX0_hold_39 : decode cX0_hold 39 = .ok (.iaload, 1) := by decide +kernel
theorem dX0_hold_40 : decode cX0_hold 40 = .ok (.ifCond .ne 13, 3) := by decide +kernel
theorem dX0_hold_43 : decode cX0_hold 43 = .ok (.aload_n 0, 1) := by decide +kernel
theorem dX0_hold_44 : decode cX0_hold 44 = .ok (.dup, 1) := by decide +kernel
theorem dX0_hold_45 : decode cX0_hold 45 = .ok (.getfield 22, 3) := by decide +kernel
theorem dX0_hold_48 : decode cX0_hold 48 = .ok (.iconst 1, 1) := by decide +kernel
theorem dX0_hold_49 : decode cX0_hold 49 = .ok (.iadd, 1) := by decide +kernel
theorem dX0_hold_50 : decode cX0_hold 50 = .ok (.putfield 22, 3) := by decide +kernel
theorem dX0_hold_53 : decode cX0_hold 53 = .ok (.aload_n 0, 1) := by decide +kernel
theorem dX0_hold_54 : decode cX0_hold 54 = .ok (.getfield 9, 3) := by decide +kernel
theorem dX0_hold_57 : decode cX0_hold 57 = .ok (.iload_n 1, 1) := by decide +kernel
theorem dX0_hold_58 : decode cX0_hold 58 = .ok (.iload_n 2, 1) := by decide +kernel
theorem dX0_hold_59 : decode cX0_hold 59 = .ok (.iastore, 1) := by decide +kernel
theorem dX0_hold_60 : decode cX0_hold 60 = .ok (.return_, 1) := by decide +kernel
theorem dX0_take_0 : decode cX0_take 0 = .ok (.iload_n 1, 1) := by decide +kernel
theorem dX0_take_1 : decode cX0_take 1 = .ok (.ifCond .lt 21, 3) := by decide +kernel
theorem dX0_take_4 : decode cX0_take 4 = .ok (.iload_n 1, 1) := by decide +kernel
theorem dX0_take_5 : decode cX0_take 5 = .ok (.aload_n 0, 1) := by decide +kernel
theorem dX0_take_6 : decode cX0_take 6 = .ok (.getfield 9, 3) := by decide +kernel
theorem dX0_take_9 : decode cX0_take 9 = .ok (.arraylength, 1) := by decide +kernel
theorem dX0_take_10 : decode cX0_take 10 = .ok (.if_icmp .ge 12, 3) := by decide +kernel
theorem dX0_take_13 : decode cX0_take 13 = .ok (.aload_n 0, 1) := by decide +kernel
theorem dX0_take_14 : decode cX0_take 14 = .ok (.getfield 9, 3) := by decide +kernel
theorem dX0_take_17 : decode cX0_take 17 = .ok (.iload_n 1, 1) := by decide +kernel
theorem dX0_take_18 : decode cX0_take 18 = .ok (.iaload, 1) := by decide +kernel
theorem dX0_take_19 : decode cX0_take 19 = .ok (.ifCond .ne 5, 3) := by decide +kernel
theorem dX0_take_22 : decode cX0_take 22 = .ok (.iconst 0, 1) := by decide +kernel
theorem dX0_take_23 : decode cX0_take 23 = .ok (.ireturn, 1) := by decide +kernel
theorem dX0_take_24 : decode cX0_take 24 = .ok (.aload_n 0, 1) := by decide +kernel
theorem dX0_take_25 : decode cX0_take 25 = .ok (.getfield 9, 3) := by decide +kernel
theorem dX0_take_28 : decode cX0_take 28 = .ok (.iload_n 1, 1) := by decide +kernel
theorem dX0_take_29 : decode cX0_take 29 = .ok (.iaload, 1) := by decide +kernel
theorem dX0_take_30 : decode cX0_take 30 = .ok (.istore_n 2, 1) := by decide +kernel
theorem dX0_take_31 : decode cX0_take 31 = .ok (.aload_n 0, 1) := by decide +kernel
theorem dX0_take_32 : decode cX0_take 32 = .ok (.getfield 9, 3) := by decide +kernel
theorem dX0_take_35 : decode cX0_take 35 = .ok (.iload_n 1, 1) := by decide +kernel
theorem dX0_take_36 : decode cX0_take 36 = .ok (.iconst 0, 1) := by decide +kernel
theorem dX0_take_37 : decode cX0_take 37 = .ok (.iastore, 1) := by decide +kernel
theorem dX0_take_38 : decode cX0_take 38 = .ok (.aload_n 0, 1) := by decide +kernel
theorem dX0_take_39 : decode cX0_take 39 = .ok (.dup, 1) := by decide +kernel
theorem dX0_take_40 : decode cX0_take 40 = .ok (.getfield 22, 3) := by decide +kernel
theorem dX0_take_43 : decode cX0_take 43 = .ok (.iconst 1, 1) := by decide +kernel
theorem dX0_take_44 : decode cX0_take 44 = .ok (.isub, 1) := by decide +kernel
theorem dX0_take_45 : decode cX0_take 45 = .ok (.putfield 22, 3) := by decide +kernel
theorem dX0_take_48 : decode cX0_take 48 = .ok (.iload_n 2, 1) := by decide +kernel
theorem dX0_take_49 : decode cX0_take 49 = .ok (.ireturn, 1) := by decide +kernel
theorem dX0_dropBetween_0 : decode cX0_dropBetween 0 = .ok (.iload_n 1, 1) := by decide +kernel
theorem dX0_dropBetween_1 : decode cX0_dropBetween 1 = .ok (.istore_n 3, 1) := by decide +kernel
theorem dX0_dropBetween_2 : decode cX0_dropBetween 2 = .ok (.iload_n 3, 1) := by decide +kernel
theorem dX0_dropBetween_3 : decode cX0_dropBetween 3 = .ok (.iload_n 2, 1) := by decide +kernel
theorem dX0_dropBetween_4 : decode cX0_dropBetween 4 = .ok (.if_icmp .ge 22, 3) := by decide +kernel
theorem dX0_dropBetween_7 : decode cX0_dropBetween 7 = .ok (.aload_n 0, 1) := by decide +kernel
theorem dX0_dropBetween_8 : decode cX0_dropBetween 8 = .ok (.getfield 22, 3) := by decide +kernel
theorem dX0_dropBetween_11 : decode cX0_dropBetween 11 = .ok (.ifCond .le 15, 3) := by decide +kernel
theorem dX0_dropBetween_14 : decode cX0_dropBetween 14 = .ok (.aload_n 0, 1) := by decide +kernel
theorem dX0_dropBetween_15 : decode cX0_dropBetween 15 = .ok (.iload_n 3, 1) := by decide +kernel
theorem dX0_dropBetween_16 : decode cX0_dropBetween 16 = .ok (.invokevirtual 26, 3) := by decide +kernel
theorem dX0_dropBetween_19 : decode cX0_dropBetween 19 = .ok (.pop, 1) := by decide +kernel
theorem dX0_dropBetween_20 : decode cX0_dropBetween 20 = .ok (.iinc 3 1, 3) := by decide +kernel
theorem dX0_dropBetween_23 : decode cX0_dropBetween 23 = .ok (.goto (-21), 3) := by decide +kernel
theorem dX0_dropBetween_26 : decode cX0_dropBetween 26 = .ok (.return_, 1) := by decide +kernel
theorem dX0_clear_0 : decode cX0_clear 0 = .ok (.aload_n 0, 1) := by decide +kernel
theorem dX0_clear_1 : decode cX0_clear 1 = .ok (.getfield 9, 3) := by decide +kernel
theorem dX0_clear_4 : decode cX0_clear 4 = .ok (.iconst 0, 1) := by decide +kernel
theorem dX0_clear_5 : decode cX0_clear 5 = .ok (.invokestatic 30, 3) := by decide +kernel
theorem dX0_clear_8 : decode cX0_clear 8 = .ok (.aload_n 0, 1) := by decide +kernel
theorem dX0_clear_9 : decode cX0_clear 9 = .ok (.iconst 0, 1) := by decide +kernel
theorem dX0_clear_10 : decode cX0_clear 10 = .ok (.putfield 22, 3) := by decide +kernel
theorem dX0_clear_13 : decode cX0_clear 13 = .ok (.return_, 1) := by decide +kernel
theorem dX1_init_0 : decode cX1_init 0 = .ok (.aload_n 0, 1) := by decide +kernel
theorem dX1_init_1 : decode cX1_init 1 = .ok (.invokespecial 1, 3) := by decide +kernel
theorem dX1_init_4 : decode cX1_init 4 = .ok (.aload_n 0, 1) := by decide +kernel
theorem dX1_init_5 : decode cX1_init 5 = .ok (.iload_n 1, 1) := by decide +kernel
theorem dX1_init_6 : decode cX1_init 6 = .ok (.putfield 7, 3) := by decide +kernel
theorem dX1_init_9 : decode cX1_init 9 = .ok (.aload_n 0, 1) := by decide +kernel
theorem dX1_init_10 : decode cX1_init 10 = .ok (.iload_n 2, 1) := by decide +kernel
theorem dX1_init_11 : decode cX1_init 11 = .ok (.putfield 13, 3) := by decide +kernel
theorem dX1_init_14 : decode cX1_init 14 = .ok (.return_, 1) := by decide +kernel
theorem dX1_rest_0 : decode cX1_rest 0 = .ok (.aload_n 0, 1) := by decide +kernel
theorem dX1_rest_1 : decode cX1_rest 1 = .ok (.getfield 13, 3) := by decide +kernel
theorem dX1_rest_4 : decode cX1_rest 4 = .ok (.aload_n 0, 1) := by decide +kernel
theorem dX1_rest_5 : decode cX1_rest 5 = .ok (.getfield 16, 3) := by decide +kernel
theorem dX1_rest_8 : decode cX1_rest 8 = .ok (.isub, 1) := by decide +kernel
theorem dX1_rest_9 : decode cX1_rest 9 = .ok (.aload_n 0, 1) := by decide +kernel
theorem dX1_rest_10 : decode cX1_rest 10 = .ok (.getfield 19, 3) := by decide +kernel
theorem dX1_rest_13 : decode cX1_rest 13 = .ok (.isub, 1) := by decide +kernel
theorem dX1_rest_14 : decode cX1_rest 14 = .ok (.ireturn, 1) := by decide +kernel
theorem dX1_takeBack_0 : decode cX1_takeBack 0 = .ok (.aload_n 0, 1) := by decide +kernel
theorem dX1_takeBack_1 : decode cX1_takeBack 1 = .ok (.dup, 1) := by decide +kernel
theorem dX1_takeBack_2 : decode cX1_takeBack 2 = .ok (.getfield 16, 3) := by decide +kernel
theorem dX1_takeBack_5 : decode cX1_takeBack 5 = .ok (.iload_n 1, 1) := by decide +kernel
theorem dX1_takeBack_6 : decode cX1_takeBack 6 = .ok (.isub, 1) := by decide +kernel
theorem dX1_takeBack_7 : decode cX1_takeBack 7 = .ok (.putfield 16, 3) := by decide +kernel
theorem dX1_takeBack_10 : decode cX1_takeBack 10 = .ok (.aload_n 0, 1) := by decide +kernel
theorem dX1_takeBack_11 : decode cX1_takeBack 11 = .ok (.dup, 1) := by decide +kernel
theorem dX1_takeBack_12 : decode cX1_takeBack 12 = .ok (.getfield 19, 3) := by decide +kernel
theorem dX1_takeBack_15 : decode cX1_takeBack 15 = .ok (.iload_n 1, 1) := by decide +kernel
theorem dX1_takeBack_16 : decode cX1_takeBack 16 = .ok (.iadd, 1) := by decide +kernel
theorem dX1_takeBack_17 : decode cX1_takeBack 17 = .ok (.putfield 19, 3) := by decide +kernel
theorem dX1_takeBack_20 : decode cX1_takeBack 20 = .ok (.return_, 1) := by decide +kernel
theorem dX2_init_0 : decode cX2_init 0 = .ok (.aload_n 0, 1) := by decide +kernel
theorem dX2_init_1 : decode cX2_init 1 = .ok (.invokespecial 3, 3) := by decide +kernel
theorem dX2_init_4 : decode cX2_init 4 = .ok (.aload_n 0, 1) := by decide +kernel
theorem dX2_init_5 : decode cX2_init 5 = .ok (.aload_n 1, 1) := by decide +kernel
theorem dX2_init_6 : decode cX2_init 6 = .ok (.putfield 9, 3) := by decide +kernel
theorem dX2_init_9 : decode cX2_init 9 = .ok (.aload_n 0, 1) := by decide +kernel
theorem dX2_init_10 : decode cX2_init 10 = .ok (.aload_n 2, 1) := by decide +kernel
theorem dX2_init_11 : decode cX2_init 11 = .ok (.getfield 15, 3) := by decide +kernel
theorem dX2_init_14 : decode cX2_init 14 = .ok (.putfield 21, 3) := by decide +kernel
theorem dX2_init_17 : decode cX2_init 17 = .ok (.aload_n 0, 1) := by decide +kernel
theorem dX2_init_18 : decode cX2_init 18 = .ok (.aload_n 2, 1) := by decide +kernel
theorem dX2_init_19 : decode cX2_init 19 = .ok (.getfield 22, 3) := by decide +kernel
theorem dX2_init_22 : decode cX2_init 22 = .ok (.putfield 25, 3) := by decide +kernel
theorem dX2_init_25 : decode cX2_init 25 = .ok (.aload_n 0, 1) := by decide +kernel
theorem dX2_init_26 : decode cX2_init 26 = .ok (.iload_n 3, 1) := by decide +kernel
theorem dX2_init_27 : decode cX2_init 27 = .ok (.putfield 26, 3) := by decide +kernel
theorem dX2_init_30 : decode cX2_init 30 = .ok (.aload_n 0, 1) := by decide +kernel
theorem dX2_init_31 : decode cX2_init 31 = .ok (.iload 4, 2) := by decide +kernel
theorem dX2_init_33 : decode cX2_init 33 = .ok (.putfield 29, 3) := by decide +kernel
theorem dX2_init_36 : decode cX2_init 36 = .ok (.return_, 1) := by decide +kernel
theorem dX2_countsFor_0 : decode cX2_countsFor 0 = .ok (.iload_n 1, 1) := by decide +kernel
theorem dX2_countsFor_1 : decode cX2_countsFor 1 = .ok (.iconst 1, 1) := by decide +kernel
theorem dX2_countsFor_2 : decode cX2_countsFor 2 = .ok (.if_icmp .ne 18, 3) := by decide +kernel
theorem dX2_countsFor_5 : decode cX2_countsFor 5 = .ok (.aload_n 0, 1) := by decide +kernel
theorem dX2_countsFor_6 : decode cX2_countsFor 6 = .ok (.getfield 32, 3) := by decide +kernel
theorem dX2_countsFor_9 : decode cX2_countsFor 9 = .ok (.ifCond .ne 7, 3) := by decide +kernel
theorem dX2_countsFor_12 : decode cX2_countsFor 12 = .ok (.iconst 1, 1) := by decide +kernel
theorem dX2_countsFor_13 : decode cX2_countsFor 13 = .ok (.goto 26, 3) := by decide +kernel
theorem dX2_countsFor_16 : decode cX2_countsFor 16 = .ok (.iconst 0, 1) := by decide +kernel
theorem dX2_countsFor_17 : decode cX2_countsFor 17 = .ok (.goto 22, 3) := by decide +kernel
theorem dX2_countsFor_20 : decode cX2_countsFor 20 = .ok (.aload_n 0, 1) := by decide +kernel
theorem dX2_countsFor_21 : decode cX2_countsFor 21 = .ok (.getfield 36, 3) := by decide +kernel
theorem dX2_countsFor_24 : decode cX2_countsFor 24 = .ok (.ifCond .eq 14, 3) := by decide +kernel
theorem dX2_countsFor_27 : decode cX2_countsFor 27 = .ok (.aload_n 0, 1) := by decide +kernel
theorem dX2_countsFor_28 : decode cX2_countsFor 28 = .ok (.getfield 39, 3) := by decide +kernel
theorem dX2_countsFor_31 : decode cX2_countsFor 31 = .ok (.ifCond .ne 7, 3) := by decide +kernel
theorem dX2_countsFor_34 : decode cX2_countsFor 34 = .ok (.iconst 1, 1) := by decide +kernel
theorem dX2_countsFor_35 : decode cX2_countsFor 35 = .ok (.goto 4, 3) := by decide +kernel
theorem dX2_countsFor_38 : decode cX2_countsFor 38 = .ok (.iconst 0, 1) := by decide +kernel
theorem dX2_countsFor_39 : decode cX2_countsFor 39 = .ok (.ireturn, 1) := by decide +kernel
theorem dX2_priceFor_0 : decode cX2_priceFor 0 = .ok (.iload_n 1, 1) := by decide +kernel
theorem dX2_priceFor_1 : decode cX2_priceFor 1 = .ok (.iconst 1, 1) := by decide +kernel
theorem dX2_priceFor_2 : decode cX2_priceFor 2 = .ok (.if_icmp .ne 10, 3) := by decide +kernel
theorem dX2_priceFor_5 : decode cX2_priceFor 5 = .ok (.aload_n 0, 1) := by decide +kernel
theorem dX2_priceFor_6 : decode cX2_priceFor 6 = .ok (.getfield 25, 3) := by decide +kernel
theorem dX2_priceFor_9 : decode cX2_priceFor 9 = .ok (.goto 7, 3) := by decide +kernel
theorem dX2_priceFor_12 : decode cX2_priceFor 12 = .ok (.aload_n 0, 1) := by decide +kernel
theorem dX2_priceFor_13 : decode cX2_priceFor 13 = .ok (.getfield 42, 3) := by decide +kernel
theorem dX2_priceFor_16 : decode cX2_priceFor 16 = .ok (.ireturn, 1) := by decide +kernel
theorem dX3_init_0 : decode cX3_init 0 = .ok (.aload_n 0, 1) := by decide +kernel
theorem dX3_init_1 : decode cX3_init 1 = .ok (.invokespecial 3, 3) := by decide +kernel
theorem dX3_init_4 : decode cX3_init 4 = .ok (.aload_n 0, 1) := by decide +kernel
theorem dX3_init_5 : decode cX3_init 5 = .ok (.iload_n 1, 1) := by decide +kernel
theorem dX3_init_6 : decode cX3_init 6 = .ok (.putfield 9, 3) := by decide +kernel
theorem dX3_init_9 : decode cX3_init 9 = .ok (.aload_n 0, 1) := by decide +kernel
theorem dX3_init_10 : decode cX3_init 10 = .ok (.iload_n 3, 1) := by decide +kernel
theorem dX3_init_11 : decode cX3_init 11 = .ok (.putfield 15, 3) := by decide +kernel
theorem dX3_init_14 : decode cX3_init 14 = .ok (.iconst 4, 1) := by decide +kernel
theorem dX3_init_15 : decode cX3_init 15 = .ok (.newarray .int, 2) := by decide +kernel
theorem dX3_init_17 : decode cX3_init 17 = .ok (.dup, 1) := by decide +kernel
theorem dX3_init_18 : decode cX3_init 18 = .ok (.iconst 0, 1) := by decide +kernel
theorem dX3_init_19 : decode cX3_init 19 = .ok (.bipush 35, 2) := by decide +kernel
theorem dX3_init_21 : decode cX3_init 21 = .ok (.iastore, 1) := by decide +kernel
theorem dX3_init_22 : decode cX3_init 22 = .ok (.dup, 1) := by decide +kernel
theorem dX3_init_23 : decode cX3_init 23 = .ok (.iconst 1, 1) := by decide +kernel
theorem dX3_init_24 : decode cX3_init 24 = .ok (.iload_n 1, 1) := by decide +kernel
theorem dX3_init_25 : decode cX3_init 25 = .ok (.iastore, 1) := by decide +kernel
theorem dX3_init_26 : decode cX3_init 26 = .ok (.dup, 1) := by decide +kernel
theorem dX3_init_27 : decode cX3_init 27 = .ok (.iconst 2, 1) := by decide +kernel
theorem dX3_init_28 : decode cX3_init 28 = .ok (.bipush 34, 2) := by decide +kernel
theorem dX3_init_30 : decode cX3_init 30 = .ok (.iastore, 1) := by decide +kernel
theorem dX3_init_31 : decode cX3_init 31 = .ok (.dup, 1) := by decide +kernel
theorem dX3_init_32 : decode cX3_init 32 = .ok (.iconst 3, 1) := by decide +kernel
theorem dX3_init_33 : decode cX3_init 33 = .ok (.iload_n 2, 1) := by decide +kernel
theorem dX3_init_34 : decode cX3_init 34 = .ok (.iastore, 1) := by decide +kernel
theorem dX3_init_35 : decode cX3_init 35 = .ok (.astore 5, 2) := by decide +kernel
theorem dX3_init_37 : decode cX3_init 37 = .ok (.aload_n 0, 1) := by decide +kernel
theorem dX3_init_38 : decode cX3_init 38 = .ok (.aload 5, 2) := by decide +kernel
theorem dX3_init_40 : decode cX3_init 40 = .ok (.aload 5, 2) := by decide +kernel
theorem dX3_init_42 : decode cX3_init 42 = .ok (.arraylength, 1) := by decide +kernel
theorem dX3_init_43 : decode cX3_init 43 = .ok (.aload 4, 2) := by decide +kernel
theorem dX3_init_45 : decode cX3_init 45 = .ok (.arraylength, 1) := by decide +kernel
theorem dX3_init_46 : decode cX3_init 46 = .ok (.iadd, 1) := by decide +kernel
theorem dX3_init_47 : decode cX3_init 47 = .ok (.iconst 2, 1) := by decide +kernel
theorem dX3_init_48 : decode cX3_init 48 = .ok (.iadd, 1) := by decide +kernel
theorem dX3_init_49 : decode cX3_init 49 = .ok (.invokestatic 18, 3) := by decide +kernel
theorem dX3_init_52 : decode cX3_init 52 = .ok (.putfield 24, 3) := by decide +kernel
theorem dX3_init_55 : decode cX3_init 55 = .ok (.aload 4, 2) := by decide +kernel
theorem dX3_init_57 : decode cX3_init 57 = .ok (.iconst 0, 1) := by decide +kernel
theorem dX3_init_58 : decode cX3_init 58 = .ok (.aload_n 0, 1) := by decide +kernel
theorem dX3_init_59 : decode cX3_init 59 = .ok (.getfield 24, 3) := by decide +kernel
theorem dX3_init_62 : decode cX3_init 62 = .ok (.aload 5, 2) := by decide +kernel
theorem dX3_init_64 : decode cX3_init 64 = .ok (.arraylength, 1) := by decide +kernel
theorem dX3_init_65 : decode cX3_init 65 = .ok (.aload 4, 2) := by decide +kernel
theorem dX3_init_67 : decode cX3_init 67 = .ok (.arraylength, 1) := by decide +kernel
theorem dX3_init_68 : decode cX3_init 68 = .ok (.invokestatic 28, 3) := by decide +kernel
theorem dX3_init_71 : decode cX3_init 71 = .ok (.aload_n 0, 1) := by decide +kernel
theorem dX3_init_72 : decode cX3_init 72 = .ok (.getfield 24, 3) := by decide +kernel
theorem dX3_init_75 : decode cX3_init 75 = .ok (.arraylength, 1) := by decide +kernel
theorem dX3_init_76 : decode cX3_init 76 = .ok (.iconst 1, 1) := by decide +kernel
theorem dX3_init_77 : decode cX3_init 77 = .ok (.isub, 1) := by decide +kernel
theorem dX3_init_78 : decode cX3_init 78 = .ok (.istore 6, 2) := by decide +kernel
theorem dX3_init_80 : decode cX3_init 80 = .ok (.iconst 0, 1) := by decide +kernel
theorem dX3_init_81 : decode cX3_init 81 = .ok (.istore 7, 2) := by decide +kernel
theorem dX3_init_83 : decode cX3_init 83 = .ok (.iconst 0, 1) := by decide +kernel
theorem dX3_init_84 : decode cX3_init 84 = .ok (.istore 8, 2) := by decide +kernel
theorem dX3_init_86 : decode cX3_init 86 = .ok (.iload 8, 2) := by decide +kernel
theorem dX3_init_88 : decode cX3_init 88 = .ok (.iload 6, 2) := by decide +kernel
theorem dX3_init_90 : decode cX3_init 90 = .ok (.iconst 1, 1) := by decide +kernel
theorem dX3_init_91 : decode cX3_init 91 = .ok (.isub, 1) := by decide +kernel
theorem dX3_init_92 : decode cX3_init 92 = .ok (.if_icmp .ge 21, 3) := by decide +kernel
theorem dX3_init_95 : decode cX3_init 95 = .ok (.iload 7, 2) := by decide +kernel
theorem dX3_init_97 : decode cX3_init 97 = .ok (.aload_n 0, 1) := by decide +kernel
theorem dX3_init_98 : decode cX3_init 98 = .ok (.getfield 24, 3) := by decide +kernel
theorem dX3_init_101 : decode cX3_init 101 = .ok (.iload 8, 2) := by decide +kernel
theorem dX3_init_103 : decode cX3_init 103 = .ok (.iaload, 1) := by decide +kernel
theorem dX3_init_104 : decode cX3_init 104 = .ok (.iadd, 1) := by decide +kernel
theorem dX3_init_105 : decode cX3_init 105 = .ok (.istore 7, 2) := by decide +kernel
theorem dX3_init_107 : decode cX3_init 107 = .ok (.iinc 8 1, 3) := by decide +kernel
theorem dX3_init_110 : decode cX3_init 110 = .ok (.goto (-24), 3) := by decide +kernel
theorem dX3_init_113 : decode cX3_init 113 = .ok (.aload_n 0, 1) := by decide +kernel
theorem dX3_init_114 : decode cX3_init 114 = .ok (.getfield 24, 3) := by decide +kernel
theorem dX3_init_117 : decode cX3_init 117 = .ok (.iload 6, 2) := by decide +kernel
theorem dX3_init_119 : decode cX3_init 119 = .ok (.iconst 1, 1) := by decide +kernel
theorem dX3_init_120 : decode cX3_init 120 = .ok (.isub, 1) := by decide +kernel
theorem dX3_init_121 : decode cX3_init 121 = .ok (.bipush 10, 2) := by decide +kernel
theorem dX3_init_123 : decode cX3_init 123 = .ok (.iastore, 1) := by decide +kernel
theorem dX3_init_124 : decode cX3_init 124 = .ok (.aload_n 0, 1) := by decide +kernel
theorem dX3_init_125 : decode cX3_init 125 = .ok (.getfield 24, 3) := by decide +kernel
theorem dX3_init_128 : decode cX3_init 128 = .ok (.iload 6, 2) := by decide +kernel
theorem dX3_init_130 : decode cX3_init 130 = .ok (.iload 7, 2) := by decide +kernel
theorem dX3_init_132 : decode cX3_init 132 = .ok (.sipush 256, 3) := by decide +kernel
theorem dX3_init_135 : decode cX3_init 135 = .ok (.invokestatic 34, 3) := by decide +kernel
theorem dX3_init_138 : decode cX3_init 138 = .ok (.iastore, 1) := by decide +kernel
theorem dX3_init_139 : decode cX3_init 139 = .ok (.return_, 1) := by decide +kernel
theorem dX3_fieldCount_0 : decode cX3_fieldCount 0 = .ok (.aload_n 0, 1) := by decide +kernel
theorem dX3_fieldCount_1 : decode cX3_fieldCount 1 = .ok (.getfield 24, 3) := by decide +kernel
theorem dX3_fieldCount_4 : decode cX3_fieldCount 4 = .ok (.arraylength, 1) := by decide +kernel
theorem dX3_fieldCount_5 : decode cX3_fieldCount 5 = .ok (.iconst 2, 1) := by decide +kernel
theorem dX3_fieldCount_6 : decode cX3_fieldCount 6 = .ok (.idiv, 1) := by decide +kernel
theorem dX3_fieldCount_7 : decode cX3_fieldCount 7 = .ok (.ireturn, 1) := by decide +kernel
theorem dX3_hasPlace_0 : decode cX3_hasPlace 0 = .ok (.iload_n 1, 1) := by decide +kernel
theorem dX3_hasPlace_1 : decode cX3_hasPlace 1 = .ok (.ifCond .lt 18, 3) := by decide +kernel
theorem dX3_hasPlace_4 : decode cX3_hasPlace 4 = .ok (.iload_n 1, 1) := by decide +kernel
theorem dX3_hasPlace_5 : decode cX3_hasPlace 5 = .ok (.aload_n 0, 1) := by decide +kernel
theorem dX3_hasPlace_6 : decode cX3_hasPlace 6 = .ok (.getfield 24, 3) := by decide +kernel
theorem dX3_hasPlace_9 : decode cX3_hasPlace 9 = .ok (.arraylength, 1) := by decide +kernel
theorem dX3_hasPlace_10 : decode cX3_hasPlace 10 = .ok (.iconst 2, 1) := by decide +kernel
theorem dX3_hasPlace_11 : decode cX3_hasPlace 11 = .ok (.idiv, 1) := by decide +kernel
theorem dX3_hasPlace_12 : decode cX3_hasPlace 12 = .ok (.if_icmp .ge 7, 3) := by decide +kernel
theorem dX3_hasPlace_15 : decode cX3_hasPlace 15 = .ok (.iconst 1, 1) := by decide +kernel
theorem dX3_hasPlace_16 : decode cX3_hasPlace 16 = .ok (.goto 4, 3) := by decide +kernel
theorem dX3_hasPlace_19 : decode cX3_hasPlace 19 = .ok (.iconst 0, 1) := by decide +kernel
theorem dX3_hasPlace_20 : decode cX3_hasPlace 20 = .ok (.ireturn, 1) := by decide +kernel
theorem dX3_tagOfPlace_0 : decode cX3_tagOfPlace 0 = .ok (.aload_n 0, 1) := by decide +kernel
theorem dX3_tagOfPlace_1 : decode cX3_tagOfPlace 1 = .ok (.iload_n 1, 1) := by decide +kernel
theorem dX3_tagOfPlace_2 : decode cX3_tagOfPlace 2 = .ok (.invokevirtual 40, 3) := by decide +kernel
theorem dX3_tagOfPlace_5 : decode cX3_tagOfPlace 5 = .ok (.ifCond .eq 14, 3) := by decide +kernel
theorem dX3_tagOfPlace_8 : decode cX3_tagOfPlace 8 = .ok (.aload_n 0, 1) := by decide +kernel
theorem dX3_tagOfPlace_9 : decode cX3_tagOfPlace 9 = .ok (.getfield 24, 3) := by decide +kernel
theorem dX3_tagOfPlace_12 : decode cX3_tagOfPlace 12 = .ok (.iconst 2, 1) := by decide +kernel
theorem dX3_tagOfPlace_13 : decode cX3_tagOfPlace 13 = .ok (.iload_n 1, 1) := by decide +kernel
theorem dX3_tagOfPlace_14 : decode cX3_tagOfPlace 14 = .ok (.imul, 1) := by decide +kernel
theorem dX3_tagOfPlace_15 : decode cX3_tagOfPlace 15 = .ok (.iaload, 1) := by decide +kernel
theorem dX3_tagOfPlace_16 : decode cX3_tagOfPlace 16 = .ok (.goto 4, 3) := by decide +kernel
theorem dX3_tagOfPlace_19 : decode cX3_tagOfPlace 19 = .ok (.iconst (-1), 1) := by decide +kernel
theorem dX3_tagOfPlace_20 : decode cX3_tagOfPlace 20 = .ok (.ireturn, 1) := by decide +kernel
theorem dX3_valueOfPlace_0 : decode cX3_valueOfPlace 0 = .ok (.aload_n 0, 1) := by decide +kernel
theorem dX3_valueOfPlace_1 : decode cX3_valueOfPlace 1 = .ok (.iload_n 1, 1) := by decide +kernel
theorem dX3_valueOfPlace_2 : decode cX3_valueOfPlace 2 = .ok (.invokevirtual 40, 3) := by decide +kernel
theorem dX3_valueOfPlace_5 : decode cX3_valueOfPlace 5 = .ok (.ifCond .eq 16, 3) := by decide +kernel
theorem dX3_valueOfPlace_8 : decode cX3_valueOfPlace 8 = .ok (.aload_n 0, 1) := by decide +kernel
theorem dX3_valueOfPlace_9 : decode cX3_valueOfPlace 9 = .ok (.getfield 24, 3) := by decide +kernel
theorem dX3_valueOfPlace_12 : decode cX3_valueOfPlace 12 = .ok (.iconst 2, 1) := by decide +kernel
theorem dX3_valueOfPlace_13 : decode cX3_valueOfPlace 13 = .ok (.iload_n 1, 1) := by decide +kernel
theorem dX3_valueOfPlace_14 : decode cX3_valueOfPlace 14 = .ok (.imul, 1) := by decide +kernel
theorem dX3_valueOfPlace_15 : decode cX3_valueOfPlace 15 = .ok (.iconst 1, 1) := by decide +kernel
theorem dX3_valueOfPlace_16 : decode cX3_valueOfPlace 16 = .ok (.iadd, 1) := by decide +kernel
theorem dX3_valueOfPlace_17 : decode cX3_valueOfPlace 17 = .ok (.iaload, 1) := by decide +kernel
theorem dX3_valueOfPlace_18 : decode cX3_valueOfPlace 18 = .ok (.goto 4, 3) := by decide +kernel
theorem dX3_valueOfPlace_21 : decode cX3_valueOfPlace 21 = .ok (.iconst (-1), 1) := by decide +kernel
theorem dX3_valueOfPlace_22 : decode cX3_valueOfPlace 22 = .ok (.ireturn, 1) := by decide +kernel
theorem dX3_valueOf_0 : decode cX3_valueOf 0 = .ok (.iconst 0, 1) := by decide +kernel
theorem dX3_valueOf_1 : decode cX3_valueOf 1 = .ok (.istore_n 2, 1) := by decide +kernel
theorem dX3_valueOf_2 : decode cX3_valueOf 2 = .ok (.iload_n 2, 1) := by decide +kernel
theorem dX3_valueOf_3 : decode cX3_valueOf 3 = .ok (.iconst 1, 1) := by decide +kernel
theorem dX3_valueOf_4 : decode cX3_valueOf 4 = .ok (.iadd, 1) := by decide +kernel
theorem dX3_valueOf_5 : decode cX3_valueOf 5 = .ok (.aload_n 0, 1) := by decide +kernel
theorem dX3_valueOf_6 : decode cX3_valueOf 6 = .ok (.getfield 24, 3) := by decide +kernel
theorem dX3_valueOf_9 : decode cX3_valueOf 9 = .ok (.arraylength, 1) := by decide +kernel
theorem dX3_valueOf_10 : decode cX3_valueOf 10 = .ok (.if_icmp .ge 28, 3) := by decide +kernel
theorem dX3_valueOf_13 : decode cX3_valueOf 13 = .ok (.aload_n 0, 1) := by decide +kernel
theorem dX3_valueOf_14 : decode cX3_valueOf 14 = .ok (.getfield 24, 3) := by decide +kernel
theorem dX3_valueOf_17 : decode cX3_valueOf 17 = .ok (.iload_n 2, 1) := by decide +kernel
theorem dX3_valueOf_18 : decode cX3_valueOf 18 = .ok (.iaload, 1) := by decide +kernel
theorem dX3_valueOf_19 : decode cX3_valueOf 19 = .ok (.iload_n 1, 1) := by decide +kernel
theorem dX3_valueOf_20 : decode cX3_valueOf 20 = .ok (.if_icmp .ne 12, 3) := by decide +kernel
theorem dX3_valueOf_23 : decode cX3_valueOf 23 = .ok (.aload_n 0, 1) := by decide +kernel
theorem dX3_valueOf_24 : decode cX3_valueOf 24 = .ok (.getfield 24, 3) := by decide +kernel
theorem dX3_valueOf_27 : decode cX3_valueOf 27 = .ok (.iload_n 2, 1) := by decide +kernel
theorem dX3_valueOf_28 : decode cX3_valueOf 28 = .ok (.iconst 1, 1) := by decide +kernel
theorem dX3_valueOf_29 : decode cX3_valueOf 29 = .ok (.iadd, 1) := by decide +kernel
theorem dX3_valueOf_30 : decode cX3_valueOf 30 = .ok (.iaload, 1) := by decide +kernel
theorem dX3_valueOf_31 : decode cX3_valueOf 31 = .ok (.ireturn, 1) := by decide +kernel
theorem dX3_valueOf_32 : decode cX3_valueOf 32 = .ok (.iinc 2 2, 3) := by decide +kernel
theorem dX3_valueOf_35 : decode cX3_valueOf 35 = .ok (.goto (-33), 3) := by decide +kernel
theorem dX3_valueOf_38 : decode cX3_valueOf 38 = .ok (.iconst (-1), 1) := by decide +kernel
theorem dX3_valueOf_39 : decode cX3_valueOf 39 = .ok (.ireturn, 1) := by decide +kernel
theorem dX4_init_0 : decode cX4_init 0 = .ok (.aload_n 0, 1) := by decide +kernel
theorem dX4_init_1 : decode cX4_init 1 = .ok (.invokespecial 3, 3) := by decide +kernel
theorem dX4_init_4 : decode cX4_init 4 = .ok (.aload_n 0, 1) := by decide +kernel
theorem dX4_init_5 : decode cX4_init 5 = .ok (.iload_n 1, 1) := by decide +kernel
theorem dX4_init_6 : decode cX4_init 6 = .ok (.putfield 9, 3) := by decide +kernel
theorem dX4_init_9 : decode cX4_init 9 = .ok (.aload_n 0, 1) := by decide +kernel
theorem dX4_init_10 : decode cX4_init 10 = .ok (.iload_n 2, 1) := by decide +kernel
theorem dX4_init_11 : decode cX4_init 11 = .ok (.putfield 15, 3) := by decide +kernel
theorem dX4_init_14 : decode cX4_init 14 = .ok (.aload_n 0, 1) := by decide +kernel
theorem dX4_init_15 : decode cX4_init 15 = .ok (.new 19, 3) := by decide +kernel
theorem dX4_init_18 : decode cX4_init 18 = .ok (.dup, 1) := by decide +kernel
theorem dX4_init_19 : decode cX4_init 19 = .ok (.iload_n 3, 1) := by decide +kernel
theorem dX4_init_20 : decode cX4_init 20 = .ok (.iload 4, 2) := by decide +kernel
theorem dX4_init_22 : decode cX4_init 22 = .ok (.invokespecial 21, 3) := by decide +kernel
theorem dX4_init_25 : decode cX4_init 25 = .ok (.putfield 24, 3) := by decide +kernel
theorem dX4_init_28 : decode cX4_init 28 = .ok (.aload_n 0, 1) := by decide +kernel
theorem dX4_init_29 : decode cX4_init 29 = .ok (.new 19, 3) := by decide +kernel
theorem dX4_init_32 : decode cX4_init 32 = .ok (.dup, 1) := by decide +kernel
theorem dX4_init_33 : decode cX4_init 33 = .ok (.iconst 0, 1) := by decide +kernel
theorem dX4_init_34 : decode cX4_init 34 = .ok (.iconst 0, 1) := by decide +kernel
theorem dX4_init_35 : decode cX4_init 35 = .ok (.invokespecial 21, 3) := by decide +kernel
theorem dX4_init_38 : decode cX4_init 38 = .ok (.putfield 28, 3) := by decide +kernel
theorem dX4_init_41 : decode cX4_init 41 = .ok (.return_, 1) := by decide +kernel
theorem dX4_isInBook_0 : decode cX4_isInBook 0 = .ok (.iload_n 1, 1) := by decide +kernel
theorem dX4_isInBook_1 : decode cX4_isInBook 1 = .ok (.ifCond .eq 10, 3) := by decide +kernel
theorem dX4_isInBook_4 : decode cX4_isInBook 4 = .ok (.aload_n 0, 1) := by decide +kernel
theorem dX4_isInBook_5 : decode cX4_isInBook 5 = .ok (.getfield 31, 3) := by decide +kernel
theorem dX4_isInBook_8 : decode cX4_isInBook 8 = .ok (.ifCond .eq 7, 3) := by decide +kernel
theorem dX4_isInBook_11 : decode cX4_isInBook 11 = .ok (.iconst 1, 1) := by decide +kernel
theorem dX4_isInBook_12 : decode cX4_isInBook 12 = .ok (.goto 4, 3) := by decide +kernel
theorem dX4_isInBook_15 : decode cX4_isInBook 15 = .ok (.iconst 0, 1) := by decide +kernel
theorem dX4_isInBook_16 : decode cX4_isInBook 16 = .ok (.ireturn, 1) := by decide +kernel
theorem dX4_book_0 : decode cX4_book 0 = .ok (.iload_n 1, 1) := by decide +kernel
theorem dX4_book_1 : decode cX4_book 1 = .ok (.iconst 1, 1) := by decide +kernel
theorem dX4_book_2 : decode cX4_book 2 = .ok (.if_icmp .ne 10, 3) := by decide +kernel
theorem dX4_book_5 : decode cX4_book 5 = .ok (.aload_n 0, 1) := by decide +kernel
theorem dX4_book_6 : decode cX4_book 6 = .ok (.getfield 28, 3) := by decide +kernel
theorem dX4_book_9 : decode cX4_book 9 = .ok (.goto 7, 3) := by decide +kernel
theorem dX4_book_12 : decode cX4_book 12 = .ok (.aload_n 0, 1) := by decide +kernel
theorem dX4_book_13 : decode cX4_book 13 = .ok (.getfield 24, 3) := by decide +kernel
theorem dX4_book_16 : decode cX4_book 16 = .ok (.areturn, 1) := by decide +kernel
theorem dX4_leftFor_0 : decode cX4_leftFor 0 = .ok (.iload_n 1, 1) := by decide +kernel
theorem dX4_leftFor_1 : decode cX4_leftFor 1 = .ok (.ifCond .ne 12, 3) := by decide +kernel
theorem dX4_leftFor_4 : decode cX4_leftFor 4 = .ok (.aload_n 0, 1) := by decide +kernel
theorem dX4_leftFor_5 : decode cX4_leftFor 5 = .ok (.getfield 34, 3) := by decide +kernel
theorem dX4_leftFor_8 : decode cX4_leftFor 8 = .ok (.ifCond .ne 5, 3) := by decide +kernel
theorem dX4_leftFor_11 : decode cX4_leftFor 11 = .ok (.iconst 0, 1) := by decide +kernel
theorem dX4_leftFor_12 : decode cX4_leftFor 12 = .ok (.ireturn, 1) := by decide +kernel
theorem dX4_leftFor_13 : decode cX4_leftFor 13 = .ok (.aload_n 0, 1) := by decide +kernel
theorem dX4_leftFor_14 : decode cX4_leftFor 14 = .ok (.iload_n 1, 1) := by decide +kernel
theorem dX4_leftFor_15 : decode cX4_leftFor 15 = .ok (.invokevirtual 37, 3) := by decide +kernel
theorem dX4_leftFor_18 : decode cX4_leftFor 18 = .ok (.invokevirtual 41, 3) := by decide +kernel
theorem dX4_leftFor_21 : decode cX4_leftFor 21 = .ok (.ireturn, 1) := by decide +kernel
theorem dX4_state_0 : decode cX4_state 0 = .ok (.aload_n 0, 1) := by decide +kernel
theorem dX4_state_1 : decode cX4_state 1 = .ok (.getfield 34, 3) := by decide +kernel
theorem dX4_state_4 : decode cX4_state 4 = .ok (.ifCond .ne 5, 3) := by decide +kernel
theorem dX4_state_7 : decode cX4_state 7 = .ok (.iconst 0, 1) := by decide +kernel
theorem dX4_state_8 : decode cX4_state 8 = .ok (.ireturn, 1) := by decide +kernel
theorem dX4_state_9 : decode cX4_state 9 = .ok (.aload_n 0, 1) := by decide +kernel
theorem dX4_state_10 : decode cX4_state 10 = .ok (.getfield 24, 3) := by decide +kernel
theorem dX4_state_13 : decode cX4_state 13 = .ok (.invokevirtual 41, 3) := by decide +kernel
theorem dX4_state_16 : decode cX4_state 16 = .ok (.ifCond .le 7, 3) := by decide +kernel
theorem dX4_state_19 : decode cX4_state 19 = .ok (.iconst 1, 1) := by decide +kernel
theorem dX4_state_20 : decode cX4_state 20 = .ok (.goto 4, 3) := by decide +kernel
theorem dX4_state_23 : decode cX4_state 23 = .ok (.iconst 2, 1) := by decide +kernel
theorem dX4_state_24 : decode cX4_state 24 = .ok (.ireturn, 1) := by decide +kernel
theorem dX4_booksAgree_0 : decode cX4_booksAgree 0 = .ok (.aload_n 0, 1) := by decide +kernel
theorem dX4_booksAgree_1 : decode cX4_booksAgree 1 = .ok (.iconst 0, 1) := by decide +kernel
theorem dX4_booksAgree_2 : decode cX4_booksAgree 2 = .ok (.invokevirtual 45, 3) := by decide +kernel
theorem dX4_booksAgree_5 : decode cX4_booksAgree 5 = .ok (.aload_n 0, 1) := by decide +kernel
theorem dX4_booksAgree_6 : decode cX4_booksAgree 6 = .ok (.iconst 1, 1) := by decide +kernel
theorem dX4_booksAgree_7 : decode cX4_booksAgree 7 = .ok (.invokevirtual 45, 3) := by decide +kernel
theorem dX4_booksAgree_10 : decode cX4_booksAgree 10 = .ok (.if_icmp .ne 41, 3) := by decide +kernel
theorem dX4_booksAgree_13 : decode cX4_booksAgree 13 = .ok (.aload_n 0, 1) := by decide +kernel
theorem dX4_booksAgree_14 : decode cX4_booksAgree 14 = .ok (.getfield 24, 3) := by decide +kernel
theorem dX4_booksAgree_17 : decode cX4_booksAgree 17 = .ok (.getfield 49, 3) := by decide +kernel
theorem dX4_booksAgree_20 : decode cX4_booksAgree 20 = .ok (.aload_n 0, 1) := by decide +kernel
theorem dX4_booksAgree_21 : decode cX4_booksAgree 21 = .ok (.getfield 28, 3) := by decide +kernel
theorem dX4_booksAgree_24 : decode cX4_booksAgree 24 = .ok (.getfield 49, 3) := by decide +kernel
theorem dX4_booksAgree_27 : decode cX4_booksAgree 27 = .ok (.if_icmp .ne 24, 3) := by decide +kernel
theorem dX4_booksAgree_30 : decode cX4_booksAgree 30 = .ok (.aload_n 0, 1) := by decide +kernel
theorem dX4_booksAgree_31 : decode cX4_booksAgree 31 = .ok (.getfield 24, 3) := by decide +kernel
theorem dX4_booksAgree_34 : decode cX4_booksAgree 34 = .ok (.getfield 52, 3) := by decide +kernel
theorem dX4_booksAgree_37 : decode cX4_booksAgree 37 = .ok (.aload_n 0, 1) := by decide +kernel
theorem dX4_booksAgree_38 : decode cX4_booksAgree 38 = .ok (.getfield 28, 3) := by decide +kernel
theorem dX4_booksAgree_41 : decode cX4_booksAgree 41 = .ok (.getfield 52, 3) := by decide +kernel
theorem dX4_booksAgree_44 : decode cX4_booksAgree 44 = .ok (.if_icmp .ne 7, 3) := by decide +kernel
theorem dX4_booksAgree_47 : decode cX4_booksAgree 47 = .ok (.iconst 1, 1) := by decide +kernel
theorem dX4_booksAgree_48 : decode cX4_booksAgree 48 = .ok (.goto 4, 3) := by decide +kernel
theorem dX4_booksAgree_51 : decode cX4_booksAgree 51 = .ok (.iconst 0, 1) := by decide +kernel
theorem dX4_booksAgree_52 : decode cX4_booksAgree 52 = .ok (.ireturn, 1) := by decide +kernel
theorem dX4_canTradeWith_0 : decode cX4_canTradeWith 0 = .ok (.aload_n 0, 1) := by decide +kernel
theorem dX4_canTradeWith_1 : decode cX4_canTradeWith 1 = .ok (.getfield 28, 3) := by decide +kernel
theorem dX4_canTradeWith_4 : decode cX4_canTradeWith 4 = .ok (.invokevirtual 41, 3) := by decide +kernel
theorem dX4_canTradeWith_7 : decode cX4_canTradeWith 7 = .ok (.ifCond .le 10, 3) := by decide +kernel
theorem dX4_canTradeWith_10 : decode cX4_canTradeWith 10 = .ok (.aload_n 1, 1) := by decide +kernel
theorem dX4_canTradeWith_11 : decode cX4_canTradeWith 11 = .ok (.getfield 55, 3) := by decide +kernel
theorem dX4_canTradeWith_14 : decode cX4_canTradeWith 14 = .ok (.ifCond .gt 5, 3) := by decide +kernel
theorem dX4_canTradeWith_17 : decode cX4_canTradeWith 17 = .ok (.iconst 0, 1) := by decide +kernel
theorem dX4_canTradeWith_18 : decode cX4_canTradeWith 18 = .ok (.ireturn, 1) := by decide +kernel
theorem dX4_canTradeWith_19 : decode cX4_canTradeWith 19 = .ok (.aload_n 0, 1) := by decide +kernel
theorem dX4_canTradeWith_20 : decode cX4_canTradeWith 20 = .ok (.getfield 15, 3) := by decide +kernel
theorem dX4_canTradeWith_23 : decode cX4_canTradeWith 23 = .ok (.ifCond .eq 25, 3) := by decide +kernel
theorem dX4_canTradeWith_26 : decode cX4_canTradeWith 26 = .ok (.aload_n 1, 1) := by decide +kernel
theorem dX4_canTradeWith_27 : decode cX4_canTradeWith 27 = .ok (.getfield 60, 3) := by decide +kernel
theorem dX4_canTradeWith_30 : decode cX4_canTradeWith 30 = .ok (.aload_n 0, 1) := by decide +kernel
theorem dX4_canTradeWith_31 : decode cX4_canTradeWith 31 = .ok (.getfield 28, 3) := by decide +kernel
theorem dX4_canTradeWith_34 : decode cX4_canTradeWith 34 = .ok (.getfield 63, 3) := by decide +kernel
theorem dX4_canTradeWith_37 : decode cX4_canTradeWith 37 = .ok (.if_icmp .lt 7, 3) := by decide +kernel
theorem dX4_canTradeWith_40 : decode cX4_canTradeWith 40 = .ok (.iconst 1, 1) := by decide +kernel
theorem dX4_canTradeWith_41 : decode cX4_canTradeWith 41 = .ok (.goto 26, 3) := by decide +kernel
theorem dX4_canTradeWith_44 : decode cX4_canTradeWith 44 = .ok (.iconst 0, 1) := by decide +kernel
theorem dX4_canTradeWith_45 : decode cX4_canTradeWith 45 = .ok (.goto 22, 3) := by decide +kernel
theorem dX4_canTradeWith_48 : decode cX4_canTradeWith 48 = .ok (.aload_n 1, 1) := by decide +kernel
theorem dX4_canTradeWith_49 : decode cX4_canTradeWith 49 = .ok (.getfield 60, 3) := by decide +kernel
theorem dX4_canTradeWith_52 : decode cX4_canTradeWith 52 = .ok (.aload_n 0, 1) := by decide +kernel
theorem dX4_canTradeWith_53 : decode cX4_canTradeWith 53 = .ok (.getfield 28, 3) := by decide +kernel
theorem dX4_canTradeWith_56 : decode cX4_canTradeWith 56 = .ok (.getfield 63, 3) := by decide +kernel
theorem dX4_canTradeWith_59 : decode cX4_canTradeWith 59 = .ok (.if_icmp .gt 7, 3) := by decide +kernel
theorem dX4_canTradeWith_62 : decode cX4_canTradeWith 62 = .ok (.iconst 1, 1) := by decide +kernel
theorem dX4_canTradeWith_63 : decode cX4_canTradeWith 63 = .ok (.goto 4, 3) := by decide +kernel
theorem dX4_canTradeWith_66 : decode cX4_canTradeWith 66 = .ok (.iconst 0, 1) := by decide +kernel
theorem dX4_canTradeWith_67 : decode cX4_canTradeWith 67 = .ok (.ireturn, 1) := by decide +kernel
theorem dX4_hasBetterPriceThan_0 : decode cX4_hasBetterPriceThan 0 = .ok (.aload_n 0, 1) := by decide +kernel
theorem dX4_hasBetterPriceThan_1 : decode cX4_hasBetterPriceThan 1 = .ok (.getfield 15, 3) := by decide +kernel
theorem dX4_hasBetterPriceThan_4 : decode cX4_hasBetterPriceThan 4 = .ok (.ifCond .eq 28, 3) := by decide +kernel
theorem dX4_hasBetterPriceThan_7 : decode cX4_hasBetterPriceThan 7 = .ok (.aload_n 0, 1) := by decide +kernel
theorem dX4_hasBetterPriceThan_8 : decode cX4_hasBetterPriceThan 8 = .ok (.getfield 28, 3) := by decide +kernel
theorem dX4_hasBetterPriceThan_11 : decode cX4_hasBetterPriceThan 11 = .ok (.getfield 63, 3) := by decide +kernel
theorem dX4_hasBetterPriceThan_14 : decode cX4_hasBetterPriceThan 14 = .ok (.aload_n 1, 1) := by decide +kernel
theorem dX4_hasBetterPriceThan_15 : decode cX4_hasBetterPriceThan 15 = .ok (.getfield 28, 3) := by decide +kernel
theorem dX4_hasBetterPriceThan_18 : decode cX4_hasBetterPriceThan 18 = .ok (.getfield 63, 3) := by decide +kernel
theorem dX4_hasBetterPriceThan_21 : decode cX4_hasBetterPriceThan 21 = .ok (.if_icmp .ge 7, 3) := by decide +kernel
theorem dX4_hasBetterPriceThan_24 : decode cX4_hasBetterPriceThan 24 = .ok (.iconst 1, 1) := by decide +kernel
theorem dX4_hasBetterPriceThan_25 : decode cX4_hasBetterPriceThan 25 = .ok (.goto 29, 3) := by decide +kernel
theorem dX4_hasBetterPriceThan_28 : decode cX4_hasBetterPriceThan 28 = .ok (.iconst 0, 1) := by decide +kernel
theorem dX4_hasBetterPriceThan_29 : decode cX4_hasBetterPriceThan 29 = .ok (.goto 25, 3) := by decide +kernel
theorem dX4_hasBetterPriceThan_32 : decode cX4_hasBetterPriceThan 32 = .ok (.aload_n 0, 1) := by decide +kernel
theorem dX4_hasBetterPriceThan_33 : decode cX4_hasBetterPriceThan 33 = .ok (.getfield 28, 3) := by decide +kernel
theorem dX4_hasBetterPriceThan_36 : decode cX4_hasBetterPriceThan 36 = .ok (.getfield 63, 3) := by decide +kernel
theorem dX4_hasBetterPriceThan_39 : decode cX4_hasBetterPriceThan 39 = .ok (.aload_n 1, 1) := by decide +kernel
theorem dX4_hasBetterPriceThan_40 : decode cX4_hasBetterPriceThan 40 = .ok (.getfield 28, 3) := by decide +kernel
theorem dX4_hasBetterPriceThan_43 : decode cX4_hasBetterPriceThan 43 = .ok (.getfield 63, 3) := by decide +kernel
theorem dX4_hasBetterPriceThan_46 : decode cX4_hasBetterPriceThan 46 = .ok (.if_icmp .le 7, 3) := by decide +kernel
theorem dX4_hasBetterPriceThan_49 : decode cX4_hasBetterPriceThan 49 = .ok (.iconst 1, 1) := by decide +kernel
theorem dX4_hasBetterPriceThan_50 : decode cX4_hasBetterPriceThan 50 = .ok (.goto 4, 3) := by decide +kernel
theorem dX4_hasBetterPriceThan_53 : decode cX4_hasBetterPriceThan 53 = .ok (.iconst 0, 1) := by decide +kernel
theorem dX4_hasBetterPriceThan_54 : decode cX4_hasBetterPriceThan 54 = .ok (.ireturn, 1) := by decide +kernel
theorem dX4_endRequest_0 : decode cX4_endRequest 0 = .ok (.aload_n 0, 1) := by decide +kernel
theorem dX4_endRequest_1 : decode cX4_endRequest 1 = .ok (.getfield 64, 3) := by decide +kernel
theorem dX4_endRequest_4 : decode cX4_endRequest 4 = .ok (.ifCond .le 13, 3) := by decide +kernel
theorem dX4_endRequest_7 : decode cX4_endRequest 7 = .ok (.aload_n 0, 1) := by decide +kernel
theorem dX4_endRequest_8 : decode cX4_endRequest 8 = .ok (.dup, 1) := by decide +kernel
theorem dX4_endRequest_9 : decode cX4_endRequest 9 = .ok (.getfield 64, 3) := by decide +kernel
theorem dX4_endRequest_12 : decode cX4_endRequest 12 = .ok (.iconst 1, 1) := by decide +kernel
theorem dX4_endRequest_13 : decode cX4_endRequest 13 = .ok (.isub, 1) := by decide +kernel
theorem dX4_endRequest_14 : decode cX4_endRequest 14 = .ok (.putfield 64, 3) := by decide +kernel
theorem dX4_endRequest_17 : decode cX4_endRequest 17 = .ok (.return_, 1) := by decide +kernel
theorem dX5_init_0 : decode cX5_init 0 = .ok (.aload_n 0, 1) := by decide +kernel
theorem dX5_init_1 : decode cX5_init 1 = .ok (.invokespecial 3, 3) := by decide +kernel
theorem dX5_init_4 : decode cX5_init 4 = .ok (.aload_n 0, 1) := by decide +kernel
theorem dX5_init_5 : decode cX5_init 5 = .ok (.new 9, 3) := by decide +kernel
theorem dX5_init_8 : decode cX5_init 8 = .ok (.dup, 1) := by decide +kernel
theorem dX5_init_9 : decode cX5_init 9 = .ok (.invokespecial 11, 3) := by decide +kernel
theorem dX5_init_12 : decode cX5_init 12 = .ok (.putfield 12, 3) := by decide +kernel
theorem dX5_init_15 : decode cX5_init 15 = .ok (.aload_n 0, 1) := by decide +kernel
theorem dX5_init_16 : decode cX5_init 16 = .ok (.new 18, 3) := by decide +kernel
theorem dX5_init_19 : decode cX5_init 19 = .ok (.dup, 1) := by decide +kernel
theorem dX5_init_20 : decode cX5_init 20 = .ok (.invokespecial 20, 3) := by decide +kernel
theorem dX5_init_23 : decode cX5_init 23 = .ok (.putfield 21, 3) := by decide +kernel
theorem dX5_init_26 : decode cX5_init 26 = .ok (.aload_n 0, 1) := by decide +kernel
theorem dX5_init_27 : decode cX5_init 27 = .ok (.new 25, 3) := by decide +kernel
theorem dX5_init_30 : decode cX5_init 30 = .ok (.dup, 1) := by decide +kernel
theorem dX5_init_31 : decode cX5_init 31 = .ok (.invokespecial 27, 3) := by decide +kernel
theorem dX5_init_34 : decode cX5_init 34 = .ok (.putfield 28, 3) := by decide +kernel
theorem dX5_init_37 : decode cX5_init 37 = .ok (.aload_n 0, 1) := by decide +kernel
theorem dX5_init_38 : decode cX5_init 38 = .ok (.iconst 1, 1) := by decide +kernel
theorem dX5_init_39 : decode cX5_init 39 = .ok (.putfield 32, 3) := by decide +kernel
theorem dX5_init_42 : decode cX5_init 42 = .ok (.return_, 1) := by decide +kernel
theorem dX5_message_0 : decode cX5_message 0 = .ok (.iload_n 1, 1) := by decide +kernel
theorem dX5_message_1 : decode cX5_message 1 = .ok (.iconst 1, 1) := by decide +kernel
theorem dX5_message_2 : decode cX5_message 2 = .ok (.if_icmp .lt 30, 3) := by decide +kernel
theorem dX5_message_5 : decode cX5_message 5 = .ok (.iload_n 1, 1) := by decide +kernel
theorem dX5_message_6 : decode cX5_message 6 = .ok (.aload_n 0, 1) := by decide +kernel
theorem dX5_message_7 : decode cX5_message 7 = .ok (.getfield 12, 3) := by decide +kernel
theorem dX5_message_10 : decode cX5_message 10 = .ok (.invokevirtual 36, 3) := by decide +kernel
theorem dX5_message_13 : decode cX5_message 13 = .ok (.if_icmp .gt 19, 3) := by decide +kernel
theorem dX5_message_16 : decode cX5_message 16 = .ok (.aload_n 0, 1) := by decide +kernel
theorem dX5_message_17 : decode cX5_message 17 = .ok (.getfield 12, 3) := by decide +kernel
theorem dX5_message_20 : decode cX5_message 20 = .ok (.iload_n 1, 1) := by decide +kernel
theorem dX5_message_21 : decode cX5_message 21 = .ok (.iconst 1, 1) := by decide +kernel
theorem dX5_message_22 : decode cX5_message 22 = .ok (.isub, 1) := by decide +kernel
theorem dX5_message_23 : decode cX5_message 23 = .ok (.invokevirtual 40, 3) := by decide +kernel
theorem dX5_message_26 : decode cX5_message 26 = .ok (.checkcast 44, 3) := by decide +kernel
theorem dX5_message_29 : decode cX5_message 29 = .ok (.goto 4, 3) := by decide +kernel
theorem dX5_message_32 : decode cX5_message 32 = .ok (.aconst_null, 1) := by decide +kernel
theorem dX5_message_33 : decode cX5_message 33 = .ok (.areturn, 1) := by decide +kernel
theorem dX5_numberAnew_0 : decode cX5_numberAnew 0 = .ok (.aload_n 0, 1) := by decide +kernel
theorem dX5_numberAnew_1 : decode cX5_numberAnew 1 = .ok (.getfield 12, 3) := by decide +kernel
theorem dX5_numberAnew_4 : decode cX5_numberAnew 4 = .ok (.invokevirtual 46, 3) := by decide +kernel
theorem dX5_numberAnew_7 : decode cX5_numberAnew 7 = .ok (.aload_n 0, 1) := by decide +kernel
theorem dX5_numberAnew_8 : decode cX5_numberAnew 8 = .ok (.iconst 1, 1) := by decide +kernel
theorem dX5_numberAnew_9 : decode cX5_numberAnew 9 = .ok (.putfield 32, 3) := by decide +kernel
theorem dX5_numberAnew_12 : decode cX5_numberAnew 12 = .ok (.return_, 1) := by decide +kernel
theorem dX5_leaveLine_0 : decode cX5_leaveLine 0 = .ok (.aload_n 0, 1) := by decide +kernel
theorem dX5_leaveLine_1 : decode cX5_leaveLine 1 = .ok (.iconst 0, 1) := by decide +kernel
theorem dX5_leaveLine_2 : decode cX5_leaveLine 2 = .ok (.putfield 49, 3) := by decide +kernel
theorem dX5_leaveLine_5 : decode cX5_leaveLine 5 = .ok (.aload_n 0, 1) := by decide +kernel
theorem dX5_leaveLine_6 : decode cX5_leaveLine 6 = .ok (.iconst 0, 1) := by decide +kernel
theorem dX5_leaveLine_7 : decode cX5_leaveLine 7 = .ok (.putfield 53, 3) := by decide +kernel
theorem dX5_leaveLine_10 : decode cX5_leaveLine 10 = .ok (.aload_n 0, 1) := by decide +kernel
theorem dX5_leaveLine_11 : decode cX5_leaveLine 11 = .ok (.getfield 21, 3) := by decide +kernel
theorem dX5_leaveLine_14 : decode cX5_leaveLine 14 = .ok (.invokevirtual 56, 3) := by decide +kernel
theorem dX5_leaveLine_17 : decode cX5_leaveLine 17 = .ok (.aload_n 0, 1) := by decide +kernel
theorem dX5_leaveLine_18 : decode cX5_leaveLine 18 = .ok (.getfield 28, 3) := by decide +kernel
theorem dX5_leaveLine_21 : decode cX5_leaveLine 21 = .ok (.invokevirtual 57, 3) := by decide +kernel
theorem dX5_leaveLine_24 : decode cX5_leaveLine 24 = .ok (.return_, 1) := by decide +kernel
theorem dX6_init_0 : decode cX6_init 0 = .ok (.aload_n 0, 1) := by decide +kernel
theorem dX6_init_1 : decode cX6_init 1 = .ok (.invokespecial 1, 3) := by decide +kernel
theorem dX6_init_4 : decode cX6_init 4 = .ok (.aload_n 0, 1) := by decide +kernel
theorem dX6_init_5 : decode cX6_init 5 = .ok (.iload_n 1, 1) := by decide +kernel
theorem dX6_init_6 : decode cX6_init 6 = .ok (.putfield 7, 3) := by decide +kernel
theorem dX6_init_9 : decode cX6_init 9 = .ok (.return_, 1) := by decide +kernel
theorem dX6_isBetterThan_0 : decode cX6_isBetterThan 0 = .ok (.aload_n 0, 1) := by decide +kernel
theorem dX6_isBetterThan_1 : decode cX6_isBetterThan 1 = .ok (.getfield 13, 3) := by decide +kernel
theorem dX6_isBetterThan_4 : decode cX6_isBetterThan 4 = .ok (.aload_n 1, 1) := by decide +kernel
theorem dX6_isBetterThan_5 : decode cX6_isBetterThan 5 = .ok (.getfield 13, 3) := by decide +kernel
theorem dX6_isBetterThan_8 : decode cX6_isBetterThan 8 = .ok (.if_icmp .ne 20, 3) := by decide +kernel
theorem dX6_isBetterThan_11 : decode cX6_isBetterThan 11 = .ok (.aload_n 0, 1) := by decide +kernel
theorem dX6_isBetterThan_12 : decode cX6_isBetterThan 12 = .ok (.getfield 16, 3) := by decide +kernel
theorem dX6_isBetterThan_15 : decode cX6_isBetterThan 15 = .ok (.aload_n 1, 1) := by decide +kernel
theorem dX6_isBetterThan_16 : decode cX6_isBetterThan 16 = .ok (.getfield 16, 3) := by decide +kernel
theorem dX6_isBetterThan_19 : decode cX6_isBetterThan 19 = .ok (.if_icmp .le 7, 3) := by decide +kernel
theorem dX6_isBetterThan_22 : decode cX6_isBetterThan 22 = .ok (.iconst 1, 1) := by decide +kernel
theorem dX6_isBetterThan_23 : decode cX6_isBetterThan 23 = .ok (.goto 4, 3) := by decide +kernel
theorem dX6_isBetterThan_26 : decode cX6_isBetterThan 26 = .ok (.iconst 0, 1) := by decide +kernel
theorem dX6_isBetterThan_27 : decode cX6_isBetterThan 27 = .ok (.ireturn, 1) := by decide +kernel
theorem dX6_isBetterThan_28 : decode cX6_isBetterThan 28 = .ok (.iload_n 2, 1) := by decide +kernel
theorem dX6_isBetterThan_29 : decode cX6_isBetterThan 29 = .ok (.ifCond .eq 22, 3) := by decide +kernel
theorem dX6_isBetterThan_32 : decode cX6_isBetterThan 32 = .ok (.aload_n 0, 1) := by decide +kernel
theorem dX6_isBetterThan_33 : decode cX6_isBetterThan 33 = .ok (.getfield 13, 3) := by decide +kernel
theorem dX6_isBetterThan_36 : decode cX6_isBetterThan 36 = .ok (.aload_n 1, 1) := by decide +kernel
theorem dX6_isBetterThan_37 : decode cX6_isBetterThan 37 = .ok (.getfield 13, 3) := by decide +kernel
theorem dX6_isBetterThan_40 : decode cX6_isBetterThan 40 = .ok (.if_icmp .le 7, 3) := by decide +kernel
theorem dX6_isBetterThan_43 : decode cX6_isBetterThan 43 = .ok (.iconst 1, 1) := by decide +kernel
theorem dX6_isBetterThan_44 : decode cX6_isBetterThan 44 = .ok (.goto 23, 3) := by decide +kernel
theorem dX6_isBetterThan_47 : decode cX6_isBetterThan 47 = .ok (.iconst 0, 1) := by decide +kernel
theorem dX6_isBetterThan_48 : decode cX6_isBetterThan 48 = .ok (.goto 19, 3) := by decide +kernel
theorem dX6_isBetterThan_51 : decode cX6_isBetterThan 51 = .ok (.aload_n 0, 1) := by decide +kernel
theorem dX6_isBetterThan_52 : decode cX6_isBetterThan 52 = .ok (.getfield 13, 3) := by decide +kernel
theorem dX6_isBetterThan_55 : decode cX6_isBetterThan 55 = .ok (.aload_n 1, 1) := by decide +kernel
theorem dX6_isBetterThan_56 : decode cX6_isBetterThan 56 = .ok (.getfield 13, 3) := by decide +kernel
theorem dX6_isBetterThan_59 : decode cX6_isBetterThan 59 = .ok (.if_icmp .ge 7, 3) := by decide +kernel
theorem dX6_isBetterThan_62 : decode cX6_isBetterThan 62 = .ok (.iconst 1, 1) := by decide +kernel
theorem dX6_isBetterThan_63 : decode cX6_isBetterThan 63 = .ok (.goto 4, 3) := by decide +kernel
theorem dX6_isBetterThan_66 : decode cX6_isBetterThan 66 = .ok (.iconst 0, 1) := by decide +kernel
theorem dX6_isBetterThan_67 : decode cX6_isBetterThan 67 = .ok (.ireturn, 1) := by decide +kernel
theorem dX7_init_0 : decode cX7_init 0 = .ok (.aload_n 0, 1) := by decide +kernel
theorem dX7_init_1 : decode cX7_init 1 = .ok (.invokespecial 3, 3) := by decide +kernel
theorem dX7_init_4 : decode cX7_init 4 = .ok (.aload_n 0, 1) := by decide +kernel
theorem dX7_init_5 : decode cX7_init 5 = .ok (.bipush 32, 2) := by decide +kernel
theorem dX7_init_7 : decode cX7_init 7 = .ok (.newarray .int, 2) := by decide +kernel
theorem dX7_init_9 : decode cX7_init 9 = .ok (.putfield 9, 3) := by decide +kernel
theorem dX7_init_12 : decode cX7_init 12 = .ok (.aload_n 0, 1) := by decide +kernel
theorem dX7_init_13 : decode cX7_init 13 = .ok (.bipush 32, 2) := by decide +kernel
theorem dX7_init_15 : decode cX7_init 15 = .ok (.newarray .int, 2) := by decide +kernel
theorem dX7_init_17 : decode cX7_init 17 = .ok (.putfield 15, 3) := by decide +kernel
theorem dX7_init_20 : decode cX7_init 20 = .ok (.aload_n 0, 1) := by decide +kernel
theorem dX7_init_21 : decode cX7_init 21 = .ok (.bipush 32, 2) := by decide +kernel
theorem dX7_init_23 : decode cX7_init 23 = .ok (.newarray .boolean, 2) := by decide +kernel
theorem dX7_init_25 : decode cX7_init 25 = .ok (.putfield 18, 3) := by decide +kernel
theorem dX7_init_28 : decode cX7_init 28 = .ok (.return_, 1) := by decide +kernel
theorem dX7_put_0 : decode cX7_put 0 = .ok (.aload_n 0, 1) := by decide +kernel
theorem dX7_put_1 : decode cX7_put 1 = .ok (.getfield 22, 3) := by decide +kernel
theorem dX7_put_4 : decode cX7_put 4 = .ok (.aload_n 0, 1) := by decide +kernel
theorem dX7_put_5 : decode cX7_put 5 = .ok (.getfield 9, 3) := by decide +kernel
theorem dX7_put_8 : decode cX7_put 8 = .ok (.arraylength, 1) := by decide +kernel
theorem dX7_put_9 : decode cX7_put 9 = .ok (.if_icmp .lt 7, 3) := by decide +kernel
theorem dX7_put_12 : decode cX7_put 12 = .ok (.aload_n 0, 1) := by decide +kernel
theorem dX7_put_13 : decode cX7_put 13 = .ok (.invokevirtual 26, 3) := by decide +kernel
theorem dX7_put_16 : decode cX7_put 16 = .ok (.aload_n 0, 1) := by decide +kernel
theorem dX7_put_17 : decode cX7_put 17 = .ok (.getfield 22, 3) := by decide +kernel
theorem dX7_put_20 : decode cX7_put 20 = .ok (.aload_n 0, 1) := by decide +kernel
theorem dX7_put_21 : decode cX7_put 21 = .ok (.getfield 9, 3) := by decide +kernel
theorem dX7_put_24 : decode cX7_put 24 = .ok (.arraylength, 1) := by decide +kernel
theorem dX7_put_25 : decode cX7_put 25 = .ok (.if_icmp .lt 4, 3) := by decide +kernel
theorem dX7_put_28 : decode cX7_put 28 = .ok (.return_, 1) := by decide +kernel
theorem dX7_put_29 : decode cX7_put 29 = .ok (.aload_n 0, 1) := by decide +kernel
theorem dX7_put_30 : decode cX7_put 30 = .ok (.dup, 1) := by decide +kernel
theorem dX7_put_31 : decode cX7_put 31 = .ok (.getfield 22, 3) := by decide +kernel
theorem dX7_put_34 : decode cX7_put 34 = .ok (.iconst 1, 1) := by decide +kernel
theorem dX7_put_35 : decode cX7_put 35 = .ok (.iadd, 1) := by decide +kernel
theorem dX7_put_36 : decode cX7_put 36 = .ok (.putfield 22, 3) := by decide +kernel
theorem dX7_put_39 : decode cX7_put 39 = .ok (.aload_n 0, 1) := by decide +kernel
theorem dX7_put_40 : decode cX7_put 40 = .ok (.aload_n 0, 1) := by decide +kernel
theorem dX7_put_41 : decode cX7_put 41 = .ok (.getfield 22, 3) := by decide +kernel
theorem dX7_put_44 : decode cX7_put 44 = .ok (.iconst 1, 1) := by decide +kernel
theorem dX7_put_45 : decode cX7_put 45 = .ok (.isub, 1) := by decide +kernel
theorem dX7_put_46 : decode cX7_put 46 = .ok (.invokevirtual 29, 3) := by decide +kernel
theorem dX7_put_49 : decode cX7_put 49 = .ok (.istore_n 3, 1) := by decide +kernel
theorem dX7_put_50 : decode cX7_put 50 = .ok (.aload_n 0, 1) := by decide +kernel
theorem dX7_put_51 : decode cX7_put 51 = .ok (.getfield 9, 3) := by decide +kernel
theorem dX7_put_54 : decode cX7_put 54 = .ok (.iload_n 3, 1) := by decide +kernel
theorem dX7_put_55 : decode cX7_put 55 = .ok (.iload_n 1, 1) := by decide +kernel
theorem dX7_put_56 : decode cX7_put 56 = .ok (.iastore, 1) := by decide +kernel
theorem dX7_put_57 : decode cX7_put 57 = .ok (.aload_n 0, 1) := by decide +kernel
theorem dX7_put_58 : decode cX7_put 58 = .ok (.getfield 15, 3) := by decide +kernel
theorem dX7_put_61 : decode cX7_put 61 = .ok (.iload_n 3, 1) := by decide +kernel
theorem dX7_put_62 : decode cX7_put 62 = .ok (.iload_n 2, 1) := by decide +kernel
theorem dX7_put_63 : decode cX7_put 63 = .ok (.iastore, 1) := by decide +kernel
theorem dX7_put_64 : decode cX7_put 64 = .ok (.aload_n 0, 1) := by decide +kernel
theorem dX7_put_65 : decode cX7_put 65 = .ok (.getfield 18, 3) := by decide +kernel
theorem dX7_put_68 : decode cX7_put 68 = .ok (.iload_n 3, 1) := by decide +kernel
theorem dX7_put_69 : decode cX7_put 69 = .ok (.iconst 0, 1) := by decide +kernel
theorem dX7_put_70 : decode cX7_put 70 = .ok (.bastore, 1) := by decide +kernel
theorem dX7_put_71 : decode cX7_put 71 = .ok (.return_, 1) := by decide +kernel
theorem dX7_grow_0 : decode cX7_grow 0 = .ok (.aload_n 0, 1) := by decide +kernel
theorem dX7_grow_1 : decode cX7_grow 1 = .ok (.getfield 9, 3) := by decide +kernel
theorem dX7_grow_4 : decode cX7_grow 4 = .ok (.arraylength, 1) := by decide +kernel
theorem dX7_grow_5 : decode cX7_grow 5 = .ok (.istore_n 1, 1) := by decide +kernel
theorem dX7_grow_6 : decode cX7_grow 6 = .ok (.iload_n 1, 1) := by decide +kernel
theorem dX7_grow_7 : decode cX7_grow 7 = .ok (.ldc 33, 2) := by decide +kernel
theorem dX7_grow_9 : decode cX7_grow 9 = .ok (.if_icmp .lt 4, 3) := by decide +kernel
theorem dX7_grow_12 : decode cX7_grow 12 = .ok (.return_, 1) := by decide +kernel
theorem dX7_grow_13 : decode cX7_grow 13 = .ok (.iconst 2, 1) := by decide +kernel
theorem dX7_grow_14 : decode cX7_grow 14 = .ok (.iload_n 1, 1) := by decide +kernel
theorem dX7_grow_15 : decode cX7_grow 15 = .ok (.imul, 1) := by decide +kernel
theorem dX7_grow_16 : decode cX7_grow 16 = .ok (.newarray .int, 2) := by decide +kernel
theorem dX7_grow_18 : decode cX7_grow 18 = .ok (.astore_n 2, 1) := by decide +kernel
theorem dX7_grow_19 : decode cX7_grow 19 = .ok (.iconst 2, 1) := by decide +kernel
theorem dX7_grow_20 : decode cX7_grow 20 = .ok (.iload_n 1, 1) := by decide +kernel
theorem dX7_grow_21 : decode cX7_grow 21 = .ok (.imul, 1) := by decide +kernel
theorem dX7_grow_22 : decode cX7_grow 22 = .ok (.newarray .int, 2) := by decide +kernel
theorem dX7_grow_24 : decode cX7_grow 24 = .ok (.astore_n 3, 1) := by decide +kernel
theorem dX7_grow_25 : decode cX7_grow 25 = .ok (.iconst 2, 1) := by decide +kernel
theorem dX7_grow_26 : decode cX7_grow 26 = .ok (.iload_n 1, 1) := by decide +kernel
theorem dX7_grow_27 : decode cX7_grow 27 = .ok (.imul, 1) := by decide +kernel
theorem dX7_grow_28 : decode cX7_grow 28 = .ok (.newarray .boolean, 2) := by decide +kernel
theorem dX7_grow_30 : decode cX7_grow 30 = .ok (.astore 4, 2) := by decide +kernel
theorem dX7_grow_32 : decode cX7_grow 32 = .ok (.aload_n 0, 1) := by decide +kernel
theorem dX7_grow_33 : decode cX7_grow 33 = .ok (.getfield 34, 3) := by decide +kernel
theorem dX7_grow_36 : decode cX7_grow 36 = .ok (.istore 5, 2) := by decide +kernel
theorem dX7_grow_38 : decode cX7_grow 38 = .ok (.iconst 0, 1) := by decide +kernel
theorem dX7_grow_39 : decode cX7_grow 39 = .ok (.istore 6, 2) := by decide +kernel
theorem dX7_grow_41 : decode cX7_grow 41 = .ok (.iload 6, 2) := by decide +kernel
theorem dX7_grow_43 : decode cX7_grow 43 = .ok (.iload_n 1, 1) := by decide +kernel
theorem dX7_grow_44 : decode cX7_grow 44 = .ok (.if_icmp .ge 61, 3) := by decide +kernel
theorem dX7_grow_47 : decode cX7_grow 47 = .ok (.aload_n 2, 1) := by decide +kernel
theorem dX7_grow_48 : decode cX7_grow 48 = .ok (.iload 6, 2) := by decide +kernel
theorem dX7_grow_50 : decode cX7_grow 50 = .ok (.aload_n 0, 1) := by decide +kernel
theorem dX7_grow_51 : decode cX7_grow 51 = .ok (.getfield 9, 3) := by decide +kernel
theorem dX7_grow_54 : decode cX7_grow 54 = .ok (.iload 5, 2) := by decide +kernel
theorem dX7_grow_56 : decode cX7_grow 56 = .ok (.iaload, 1) := by decide +kernel
theorem dX7_grow_57 : decode cX7_grow 57 = .ok (.iastore, 1) := by decide +kernel
theorem dX7_grow_58 : decode cX7_grow 58 = .ok (.aload_n 3, 1) := by decide +kernel
theorem dX7_grow_59 : decode cX7_grow 59 = .ok (.iload 6, 2) := by decide +kernel
theorem dX7_grow_61 : decode cX7_grow 61 = .ok (.aload_n 0, 1) := by decide +kernel
theorem dX7_grow_62 : decode cX7_grow 62 = .ok (.getfield 15, 3) := by decide +kernel
theorem dX7_grow_65 : decode cX7_grow 65 = .ok (.iload 5, 2) := by decide +kernel
theorem dX7_grow_67 : decode cX7_grow 67 = .ok (.iaload, 1) := by decide +kernel
theorem dX7_grow_68 : decode cX7_grow 68 = .ok (.iastore, 1) := by decide +kernel
theorem dX7_grow_69 : decode cX7_grow 69 = .ok (.aload 4, 2) := by decide +kernel
theorem dX7_grow_71 : decode cX7_grow 71 = .ok (.iload 6, 2) := by decide +kernel
theorem dX7_grow_73 : decode cX7_grow 73 = .ok (.aload_n 0, 1) := by decide +kernel
theorem dX7_grow_74 : decode cX7_grow 74 = .ok (.getfield 18, 3) := by decide +kernel
theorem dX7_grow_77 : decode cX7_grow 77 = .ok (.iload 5, 2) := by decide +kernel
theorem dX7_grow_79 : decode cX7_grow 79 = .ok (.baload, 1) := by decide +kernel
theorem dX7_grow_80 : decode cX7_grow 80 = .ok (.bastore, 1) := by decide +kernel
theorem dX7_grow_81 : decode cX7_grow 81 = .ok (.iload 5, 2) := by decide +kernel
theorem dX7_grow_83 : decode cX7_grow 83 = .ok (.iconst 1, 1) := by decide +kernel
theorem dX7_grow_84 : decode cX7_grow 84 = .ok (.iadd, 1) := by decide +kernel
theorem dX7_grow_85 : decode cX7_grow 85 = .ok (.iload_n 1, 1) := by decide +kernel
theorem dX7_grow_86 : decode cX7_grow 86 = .ok (.if_icmp .ge 10, 3) := by decide +kernel
theorem dX7_grow_89 : decode cX7_grow 89 = .ok (.iload 5, 2) := by decide +kernel
theorem dX7_grow_91 : decode cX7_grow 91 = .ok (.iconst 1, 1) := by decide +kernel
theorem dX7_grow_92 : decode cX7_grow 92 = .ok (.iadd, 1) := by decide +kernel
theorem dX7_grow_93 : decode cX7_grow 93 = .ok (.goto 4, 3) := by decide +kernel
theorem dX7_grow_96 : decode cX7_grow 96 = .ok (.iconst 0, 1) := by decide +kernel
theorem dX7_grow_97 : decode cX7_grow 97 = .ok (.istore 5, 2) := by decide +kernel
theorem dX7_grow_99 : decode cX7_grow 99 = .ok (.iinc 6 1, 3) := by decide +kernel
theorem dX7_grow_102 : decode cX7_grow 102 = .ok (.goto (-61), 3) := by decide +kernel
theorem dX7_grow_105 : decode cX7_grow 105 = .ok (.aload_n 0, 1) := by decide +kernel
theorem dX7_grow_106 : decode cX7_grow 106 = .ok (.aload_n 2, 1) := by decide +kernel
theorem dX7_grow_107 : decode cX7_grow 107 = .ok (.putfield 9, 3) := by decide +kernel
theorem dX7_grow_110 : decode cX7_grow 110 = .ok (.aload_n 0, 1) := by decide +kernel
theorem dX7_grow_111 : decode cX7_grow 111 = .ok (.aload_n 3, 1) := by decide +kernel
theorem dX7_grow_112 : decode cX7_grow 112 = .ok (.putfield 15, 3) := by decide +kernel
theorem dX7_grow_115 : decode cX7_grow 115 = .ok (.aload_n 0, 1) := by decide +kernel
theorem dX7_grow_116 : decode cX7_grow 116 = .ok (.aload 4, 2) := by decide +kernel
theorem dX7_grow_118 : decode cX7_grow 118 = .ok (.putfield 18, 3) := by decide +kernel
theorem dX7_grow_121 : decode cX7_grow 121 = .ok (.aload_n 0, 1) := by decide +kernel
theorem dX7_grow_122 : decode cX7_grow 122 = .ok (.iconst 0, 1) := by decide +kernel
theorem dX7_grow_123 : decode cX7_grow 123 = .ok (.putfield 34, 3) := by decide +kernel
theorem dX7_grow_126 : decode cX7_grow 126 = .ok (.return_, 1) := by decide +kernel
theorem dX7_slotOf_0 : decode cX7_slotOf 0 = .ok (.iload_n 1, 1) := by decide +kernel
theorem dX7_slotOf_1 : decode cX7_slotOf 1 = .ok (.ifCond .lt 11, 3) := by decide +kernel
theorem dX7_slotOf_4 : decode cX7_slotOf 4 = .ok (.iload_n 1, 1) := by decide +kernel
theorem dX7_slotOf_5 : decode cX7_slotOf 5 = .ok (.aload_n 0, 1) := by decide +kernel
theorem dX7_slotOf_6 : decode cX7_slotOf 6 = .ok (.getfield 22, 3) := by decide +kernel
theorem dX7_slotOf_9 : decode cX7_slotOf 9 = .ok (.if_icmp .lt 5, 3) := by decide +kernel
theorem dX7_slotOf_12 : decode cX7_slotOf 12 = .ok (.iconst 0, 1) := by decide +kernel
theorem dX7_slotOf_13 : decode cX7_slotOf 13 = .ok (.ireturn, 1) := by decide +kernel
theorem dX7_slotOf_14 : decode cX7_slotOf 14 = .ok (.aload_n 0, 1) := by decide +kernel
theorem dX7_slotOf_15 : decode cX7_slotOf 15 = .ok (.getfield 34, 3) := by decide +kernel
theorem dX7_slotOf_18 : decode cX7_slotOf 18 = .ok (.iload_n 1, 1) := by decide +kernel
theorem dX7_slotOf_19 : decode cX7_slotOf 19 = .ok (.iadd, 1) := by decide +kernel
theorem dX7_slotOf_20 : decode cX7_slotOf 20 = .ok (.istore_n 2, 1) := by decide +kernel
theorem dX7_slotOf_21 : decode cX7_slotOf 21 = .ok (.iload_n 2, 1) := by decide +kernel
theorem dX7_slotOf_22 : decode cX7_slotOf 22 = .ok (.aload_n 0, 1) := by decide +kernel
theorem dX7_slotOf_23 : decode cX7_slotOf 23 = .ok (.getfield 9, 3) := by decide +kernel
theorem dX7_slotOf_26 : decode cX7_slotOf 26 = .ok (.arraylength, 1) := by decide +kernel
theorem dX7_slotOf_27 : decode cX7_slotOf 27 = .ok (.if_icmp .ge 7, 3) := by decide +kernel
theorem dX7_slotOf_30 : decode cX7_slotOf 30 = .ok (.iload_n 2, 1) := by decide +kernel
theorem dX7_slotOf_31 : decode cX7_slotOf 31 = .ok (.goto 10, 3) := by decide +kernel
theorem dX7_slotOf_34 : decode cX7_slotOf 34 = .ok (.iload_n 2, 1) := by decide +kernel
theorem dX7_slotOf_35 : decode cX7_slotOf 35 = .ok (.aload_n 0, 1) := by decide +kernel
theorem dX7_slotOf_36 : decode cX7_slotOf 36 = .ok (.getfield 9, 3) := by decide +kernel
theorem dX7_slotOf_39 : decode cX7_slotOf 39 = .ok (.arraylength, 1) := by decide +kernel
theorem dX7_slotOf_40 : decode cX7_slotOf 40 = .ok (.isub, 1) := by decide +kernel
theorem dX7_slotOf_41 : decode cX7_slotOf 41 = .ok (.ireturn, 1) := by decide +kernel
theorem dX7_numberAt_0 : decode cX7_numberAt 0 = .ok (.aload_n 0, 1) := by decide +kernel
theorem dX7_numberAt_1 : decode cX7_numberAt 1 = .ok (.getfield 9, 3) := by decide +kernel
theorem dX7_numberAt_4 : decode cX7_numberAt 4 = .ok (.aload_n 0, 1) := by decide +kernel
theorem dX7_numberAt_5 : decode cX7_numberAt 5 = .ok (.iload_n 1, 1) := by decide +kernel
theorem dX7_numberAt_6 : decode cX7_numberAt 6 = .ok (.invokevirtual 29, 3) := by decide +kernel
theorem dX7_numberAt_9 : decode cX7_numberAt 9 = .ok (.iaload, 1) := by decide +kernel
theorem dX7_numberAt_10 : decode cX7_numberAt 10 = .ok (.ireturn, 1) := by decide +kernel
theorem dX7_nextAt_0 : decode cX7_nextAt 0 = .ok (.aload_n 0, 1) := by decide +kernel
theorem dX7_nextAt_1 : decode cX7_nextAt 1 = .ok (.getfield 15, 3) := by decide +kernel
theorem dX7_nextAt_4 : decode cX7_nextAt 4 = .ok (.aload_n 0, 1) := by decide +kernel
theorem dX7_nextAt_5 : decode cX7_nextAt 5 = .ok (.iload_n 1, 1) := by decide +kernel
theorem dX7_nextAt_6 : decode cX7_nextAt 6 = .ok (.invokevirtual 29, 3) := by decide +kernel
theorem dX7_nextAt_9 : decode cX7_nextAt 9 = .ok (.iaload, 1) := by decide +kernel
theorem dX7_nextAt_10 : decode cX7_nextAt 10 = .ok (.ireturn, 1) := by decide +kernel
theorem dX7_isGarbledAt_0 : decode cX7_isGarbledAt 0 = .ok (.aload_n 0, 1) := by decide +kernel
theorem dX7_isGarbledAt_1 : decode cX7_isGarbledAt 1 = .ok (.getfield 18, 3) := by decide +kernel
theorem dX7_isGarbledAt_4 : decode cX7_isGarbledAt 4 = .ok (.aload_n 0, 1) := by decide +kernel
theorem dX7_isGarbledAt_5 : decode cX7_isGarbledAt 5 = .ok (.iload_n 1, 1) := by decide +kernel
theorem dX7_isGarbledAt_6 : decode cX7_isGarbledAt 6 = .ok (.invokevirtual 29, 3) := by decide +kernel
theorem dX7_isGarbledAt_9 : decode cX7_isGarbledAt 9 = .ok (.baload, 1) := by decide +kernel
theorem dX7_isGarbledAt_10 : decode cX7_isGarbledAt 10 = .ok (.ireturn, 1) := by decide +kernel
theorem dX7_garbleAt_0 : decode cX7_garbleAt 0 = .ok (.aload_n 0, 1) := by decide +kernel
theorem dX7_garbleAt_1 : decode cX7_garbleAt 1 = .ok (.getfield 18, 3) := by decide +kernel
theorem dX7_garbleAt_4 : decode cX7_garbleAt 4 = .ok (.aload_n 0, 1) := by decide +kernel
theorem dX7_garbleAt_5 : decode cX7_garbleAt 5 = .ok (.iload_n 1, 1) := by decide +kernel
theorem dX7_garbleAt_6 : decode cX7_garbleAt 6 = .ok (.invokevirtual 29, 3) := by decide +kernel
theorem dX7_garbleAt_9 : decode cX7_garbleAt 9 = .ok (.iconst 1, 1) := by decide +kernel
theorem dX7_garbleAt_10 : decode cX7_garbleAt 10 = .ok (.bastore, 1) := by decide +kernel
theorem dX7_garbleAt_11 : decode cX7_garbleAt 11 = .ok (.return_, 1) := by decide +kernel
theorem dX7_dropFirst_0 : decode cX7_dropFirst 0 = .ok (.aload_n 0, 1) := by decide +kernel
theorem dX7_dropFirst_1 : decode cX7_dropFirst 1 = .ok (.getfield 22, 3) := by decide +kernel
theorem dX7_dropFirst_4 : decode cX7_dropFirst 4 = .ok (.ifCond .le 22, 3) := by decide +kernel
theorem dX7_dropFirst_7 : decode cX7_dropFirst 7 = .ok (.aload_n 0, 1) := by decide +kernel
theorem dX7_dropFirst_8 : decode cX7_dropFirst 8 = .ok (.aload_n 0, 1) := by decide +kernel
theorem dX7_dropFirst_9 : decode cX7_dropFirst 9 = .ok (.iconst 1, 1) := by decide +kernel
theorem dX7_dropFirst_10 : decode cX7_dropFirst 10 = .ok (.invokevirtual 29, 3) := by decide +kernel
theorem dX7_dropFirst_13 : decode cX7_dropFirst 13 = .ok (.putfield 34, 3) := by decide +kernel
theorem dX7_dropFirst_16 : decode cX7_dropFirst 16 = .ok (.aload_n 0, 1) := by decide +kernel
theorem dX7_dropFirst_17 : decode cX7_dropFirst 17 = .ok (.dup, 1) := by decide +kernel
theorem dX7_dropFirst_18 : decode cX7_dropFirst 18 = .ok (.getfield 22, 3) := by decide +kernel
theorem dX7_dropFirst_21 : decode cX7_dropFirst 21 = .ok (.iconst 1, 1) := by decide +kernel
theorem dX7_dropFirst_22 : decode cX7_dropFirst 22 = .ok (.isub, 1) := by decide +kernel
theorem dX7_dropFirst_23 : decode cX7_dropFirst 23 = .ok (.putfield 22, 3) := by decide +kernel
theorem dX7_dropFirst_26 : decode cX7_dropFirst 26 = .ok (.return_, 1) := by decide +kernel
theorem dX7_clear_0 : decode cX7_clear 0 = .ok (.aload_n 0, 1) := by decide +kernel
theorem dX7_clear_1 : decode cX7_clear 1 = .ok (.iconst 0, 1) := by decide +kernel
theorem dX7_clear_2 : decode cX7_clear 2 = .ok (.putfield 34, 3) := by decide +kernel
theorem dX7_clear_5 : decode cX7_clear 5 = .ok (.aload_n 0, 1) := by decide +kernel
theorem dX7_clear_6 : decode cX7_clear 6 = .ok (.iconst 0, 1) := by decide +kernel
theorem dX7_clear_7 : decode cX7_clear 7 = .ok (.putfield 22, 3) := by decide +kernel
theorem dX7_clear_10 : decode cX7_clear 10 = .ok (.return_, 1) := by decide +kernel
theorem dX8_init_0 : decode cX8_init 0 = .ok (.aload_n 0, 1) := by decide +kernel
theorem dX8_init_1 : decode cX8_init 1 = .ok (.invokespecial 1, 3) := by decide +kernel
theorem dX8_init_4 : decode cX8_init 4 = .ok (.aload_n 0, 1) := by decide +kernel
theorem dX8_init_5 : decode cX8_init 5 = .ok (.new 7, 3) := by decide +kernel
theorem dX8_init_8 : decode cX8_init 8 = .ok (.dup, 1) := by decide +kernel
theorem dX8_init_9 : decode cX8_init 9 = .ok (.invokespecial 9, 3) := by decide +kernel
theorem dX8_init_12 : decode cX8_init 12 = .ok (.putfield 10, 3) := by decide +kernel
theorem dX8_init_15 : decode cX8_init 15 = .ok (.aload_n 0, 1) := by decide +kernel
theorem dX8_init_16 : decode cX8_init 16 = .ok (.new 7, 3) := by decide +kernel
theorem dX8_init_19 : decode cX8_init 19 = .ok (.dup, 1) := by decide +kernel
theorem dX8_init_20 : decode cX8_init 20 = .ok (.invokespecial 9, 3) := by decide +kernel
theorem dX8_init_23 : decode cX8_init 23 = .ok (.putfield 16, 3) := by decide +kernel
theorem dX8_init_26 : decode cX8_init 26 = .ok (.aload_n 0, 1) := by decide +kernel
theorem dX8_init_27 : decode cX8_init 27 = .ok (.new 19, 3) := by decide +kernel
theorem dX8_init_30 : decode cX8_init 30 = .ok (.dup, 1) := by decide +kernel
theorem dX8_init_31 : decode cX8_init 31 = .ok (.invokespecial 21, 3) := by decide +kernel
theorem dX8_init_34 : decode cX8_init 34 = .ok (.putfield 22, 3) := by decide +kernel
theorem dX8_init_37 : decode cX8_init 37 = .ok (.aload_n 0, 1) := by decide +kernel
theorem dX8_init_38 : decode cX8_init 38 = .ok (.new 19, 3) := by decide +kernel
theorem dX8_init_41 : decode cX8_init 41 = .ok (.dup, 1) := by decide +kernel
theorem dX8_init_42 : decode cX8_init 42 = .ok (.invokespecial 21, 3) := by decide +kernel
theorem dX8_init_45 : decode cX8_init 45 = .ok (.putfield 26, 3) := by decide +kernel
theorem dX8_init_48 : decode cX8_init 48 = .ok (.aload_n 0, 1) := by decide +kernel
theorem dX8_init_49 : decode cX8_init 49 = .ok (.new 19, 3) := by decide +kernel
theorem dX8_init_52 : decode cX8_init 52 = .ok (.dup, 1) := by decide +kernel
theorem dX8_init_53 : decode cX8_init 53 = .ok (.invokespecial 21, 3) := by decide +kernel
theorem dX8_init_56 : decode cX8_init 56 = .ok (.putfield 29, 3) := by decide +kernel
theorem dX8_init_59 : decode cX8_init 59 = .ok (.aload_n 0, 1) := by decide +kernel
theorem dX8_init_60 : decode cX8_init 60 = .ok (.new 19, 3) := by decide +kernel
theorem dX8_init_63 : decode cX8_init 63 = .ok (.dup, 1) := by decide +kernel
theorem dX8_init_64 : decode cX8_init 64 = .ok (.invokespecial 21, 3) := by decide +kernel
theorem dX8_init_67 : decode cX8_init 67 = .ok (.putfield 32, 3) := by decide +kernel
theorem dX8_init_70 : decode cX8_init 70 = .ok (.aload_n 0, 1) := by decide +kernel
theorem dX8_init_71 : decode cX8_init 71 = .ok (.iconst 3, 1) := by decide +kernel
theorem dX8_init_72 : decode cX8_init 72 = .ok (.anewarray 35, 3) := by decide +kernel
theorem dX8_init_75 : decode cX8_init 75 = .ok (.putfield 37, 3) := by decide +kernel
theorem dX8_init_78 : decode cX8_init 78 = .ok (.aload_n 0, 1) := by decide +kernel
theorem dX8_init_79 : decode cX8_init 79 = .ok (.iconst 3, 1) := by decide +kernel
theorem dX8_init_80 : decode cX8_init 80 = .ok (.anewarray 35, 3) := by decide +kernel
theorem dX8_init_83 : decode cX8_init 83 = .ok (.putfield 41, 3) := by decide +kernel
theorem dX8_init_86 : decode cX8_init 86 = .ok (.iconst 0, 1) := by decide +kernel
theorem dX8_init_87 : decode cX8_init 87 = .ok (.istore_n 1, 1) := by decide +kernel
theorem dX8_init_88 : decode cX8_init 88 = .ok (.iload_n 1, 1) := by decide +kernel
theorem dX8_init_89 : decode cX8_init 89 = .ok (.iconst 3, 1) := by decide +kernel
theorem dX8_init_90 : decode cX8_init 90 = .ok (.if_icmp .ge 37, 3) := by decide +kernel
theorem dX8_init_93 : decode cX8_init 93 = .ok (.aload_n 0, 1) := by decide +kernel
theorem dX8_init_94 : decode cX8_init 94 = .ok (.getfield 37, 3) := by decide +kernel
theorem dX8_init_97 : decode cX8_init 97 = .ok (.iload_n 1, 1) := by decide +kernel
theorem dX8_init_98 : decode cX8_init 98 = .ok (.new 35, 3) := by decide +kernel
theorem dX8_init_101 : decode cX8_init 101 = .ok (.dup, 1) := by decide +kernel
theorem dX8_init_102 : decode cX8_init 102 = .ok (.iload_n 1, 1) := by decide +kernel
theorem dX8_init_103 : decode cX8_init 103 = .ok (.invokespecial 44, 3) := by decide +kernel
theorem dX8_init_106 : decode cX8_init 106 = .ok (.aastore, 1) := by decide +kernel
theorem dX8_init_107 : decode cX8_init 107 = .ok (.aload_n 0, 1) := by decide +kernel
theorem dX8_init_108 : decode cX8_init 108 = .ok (.getfield 41, 3) := by decide +kernel
theorem dX8_init_111 : decode cX8_init 111 = .ok (.iload_n 1, 1) := by decide +kernel
theorem dX8_init_112 : decode cX8_init 112 = .ok (.new 35, 3) := by decide +kernel
theorem dX8_init_115 : decode cX8_init 115 = .ok (.dup, 1) := by decide +kernel
theorem dX8_init_116 : decode cX8_init 116 = .ok (.iload_n 1, 1) := by decide +kernel
theorem dX8_init_117 : decode cX8_init 117 = .ok (.invokespecial 44, 3) := by decide +kernel
theorem dX8_init_120 : decode cX8_init 120 = .ok (.aastore, 1) := by decide +kernel
theorem dX8_init_121 : decode cX8_init 121 = .ok (.iinc 1 1, 3) := by decide +kernel
theorem dX8_init_124 : decode cX8_init 124 = .ok (.goto (-36), 3) := by decide +kernel
theorem dX8_init_127 : decode cX8_init 127 = .ok (.return_, 1) := by decide +kernel
theorem dX8_connect_0 : decode cX8_connect 0 = .ok (.aload_n 0, 1) := by decide +kernel
theorem dX8_connect_1 : decode cX8_connect 1 = .ok (.getfield 47, 3) := by decide +kernel
theorem dX8_connect_4 : decode cX8_connect 4 = .ok (.ifCond .eq 13, 3) := by decide +kernel
theorem dX8_connect_7 : decode cX8_connect 7 = .ok (.new 51, 3) := by decide +kernel
theorem dX8_connect_10 : decode cX8_connect 10 = .ok (.dup, 1) := by decide +kernel
theorem dX8_connect_11 : decode cX8_connect 11 = .ok (.ldc 53, 2) := by decide +kernel
theorem dX8_connect_13 : decode cX8_connect 13 = .ok (.invokespecial 55, 3) := by decide +kernel
theorem dX8_connect_16 : decode cX8_connect 16 = .ok (.athrow, 1) := by decide +kernel
theorem dX8_connect_17 : decode cX8_connect 17 = .ok (.iload_n 1, 1) := by decide +kernel
theorem dX8_connect_18 : decode cX8_connect 18 = .ok (.ifCond .eq 17, 3) := by decide +kernel
theorem dX8_connect_21 : decode cX8_connect 21 = .ok (.aload_n 0, 1) := by decide +kernel
theorem dX8_connect_22 : decode cX8_connect 22 = .ok (.getfield 10, 3) := by decide +kernel
theorem dX8_connect_25 : decode cX8_connect 25 = .ok (.invokevirtual 58, 3) := by decide +kernel
theorem dX8_connect_28 : decode cX8_connect 28 = .ok (.aload_n 0, 1) := by decide +kernel
theorem dX8_connect_29 : decode cX8_connect 29 = .ok (.getfield 16, 3) := by decide +kernel
theorem dX8_connect_32 : decode cX8_connect 32 = .ok (.invokevirtual 58, 3) := by decide +kernel
theorem dX8_connect_35 : decode cX8_connect 35 = .ok (.aload_n 0, 1) := by decide +kernel
theorem dX8_connect_36 : decode cX8_connect 36 = .ok (.iconst 1, 1) := by decide +kernel
theorem dX8_connect_37 : decode cX8_connect 37 = .ok (.putfield 47, 3) := by decide +kernel
theorem dX8_connect_40 : decode cX8_connect 40 = .ok (.aload_n 0, 1) := by decide +kernel
theorem dX8_connect_41 : decode cX8_connect 41 = .ok (.getfield 10, 3) := by decide +kernel
theorem dX8_connect_44 : decode cX8_connect 44 = .ok (.aload_n 0, 1) := by decide +kernel
theorem dX8_connect_45 : decode cX8_connect 45 = .ok (.getfield 61, 3) := by decide +kernel
theorem dX8_connect_48 : decode cX8_connect 48 = .ok (.putfield 65, 3) := by decide +kernel
theorem dX8_connect_51 : decode cX8_connect 51 = .ok (.aload_n 0, 1) := by decide +kernel
theorem dX8_connect_52 : decode cX8_connect 52 = .ok (.getfield 16, 3) := by decide +kernel
theorem dX8_connect_55 : decode cX8_connect 55 = .ok (.aload_n 0, 1) := by decide +kernel
theorem dX8_connect_56 : decode cX8_connect 56 = .ok (.getfield 61, 3) := by decide +kernel
theorem dX8_connect_59 : decode cX8_connect 59 = .ok (.putfield 65, 3) := by decide +kernel
theorem dX8_connect_62 : decode cX8_connect 62 = .ok (.aload_n 0, 1) := by decide +kernel
theorem dX8_connect_63 : decode cX8_connect 63 = .ok (.iconst 0, 1) := by decide +kernel
theorem dX8_connect_64 : decode cX8_connect 64 = .ok (.iconst 0, 1) := by decide +kernel
theorem dX8_connect_65 : decode cX8_connect 65 = .ok (.getstatic 68, 3) := by decide +kernel
theorem dX8_connect_68 : decode cX8_connect 68 = .ok (.invokevirtual 72, 3) := by decide +kernel
theorem dX8_connect_71 : decode cX8_connect 71 = .ok (.aload_n 0, 1) := by decide +kernel
theorem dX8_connect_72 : decode cX8_connect 72 = .ok (.iconst 1, 1) := by decide +kernel
theorem dX8_connect_73 : decode cX8_connect 73 = .ok (.iconst 0, 1) := by decide +kernel
theorem dX8_connect_74 : decode cX8_connect 74 = .ok (.getstatic 68, 3) := by decide +kernel
theorem dX8_connect_77 : decode cX8_connect 77 = .ok (.invokevirtual 72, 3) := by decide +kernel
theorem dX8_connect_80 : decode cX8_connect 80 = .ok (.return_, 1) := by decide +kernel
theorem dX8_cut_0 : decode cX8_cut 0 = .ok (.aload_n 0, 1) := by decide +kernel
theorem dX8_cut_1 : decode cX8_cut 1 = .ok (.getfield 47, 3) := by decide +kernel
theorem dX8_cut_4 : decode cX8_cut 4 = .ok (.ifCond .ne 13, 3) := by decide +kernel
theorem dX8_cut_7 : decode cX8_cut 7 = .ok (.new 51, 3) := by decide +kernel
theorem dX8_cut_10 : decode cX8_cut 10 = .ok (.dup, 1) := by decide +kernel
theorem dX8_cut_11 : decode cX8_cut 11 = .ok (.ldc 76, 2) := by decide +kernel
theorem dX8_cut_13 : decode cX8_cut 13 = .ok (.invokespecial 55, 3) := by decide +kernel
theorem dX8_cut_16 : decode cX8_cut 16 = .ok (.athrow, 1) := by decide +kernel
theorem dX8_cut_17 : decode cX8_cut 17 = .ok (.aload_n 0, 1) := by decide +kernel
theorem dX8_cut_18 : decode cX8_cut 18 = .ok (.getfield 10, 3) := by decide +kernel
theorem dX8_cut_21 : decode cX8_cut 21 = .ok (.getfield 78, 3) := by decide +kernel
theorem dX8_cut_24 : decode cX8_cut 24 = .ok (.getfield 82, 3) := by decide +kernel
theorem dX8_cut_27 : decode cX8_cut 27 = .ok (.aload_n 0, 1) := by decide +kernel
theorem dX8_cut_28 : decode cX8_cut 28 = .ok (.getfield 16, 3) := by decide +kernel
theorem dX8_cut_31 : decode cX8_cut 31 = .ok (.getfield 78, 3) := by decide +kernel
theorem dX8_cut_34 : decode cX8_cut 34 = .ok (.getfield 82, 3) := by decide +kernel
theorem dX8_cut_37 : decode cX8_cut 37 = .ok (.iadd, 1) := by decide +kernel
theorem dX8_cut_38 : decode cX8_cut 38 = .ok (.istore_n 1, 1) := by decide +kernel
theorem dX8_cut_39 : decode cX8_cut 39 = .ok (.aload_n 0, 1) := by decide +kernel
theorem dX8_cut_40 : decode cX8_cut 40 = .ok (.invokevirtual 87, 3) := by decide +kernel
theorem dX8_cut_43 : decode cX8_cut 43 = .ok (.iload_n 1, 1) := by decide +kernel
theorem dX8_cut_44 : decode cX8_cut 44 = .ok (.ireturn, 1) := by decide +kernel
theorem dX8_come_0 : decode cX8_come 0 = .ok (.iload_n 1, 1) := by decide +kernel
theorem dX8_come_1 : decode cX8_come 1 = .ok (.invokestatic 90, 3) := by decide +kernel
theorem dX8_come_4 : decode cX8_come 4 = .ok (.iload_n 2, 1) := by decide +kernel
theorem dX8_come_5 : decode cX8_come 5 = .ok (.iconst 1, 1) := by decide +kernel
theorem dX8_come_6 : decode cX8_come 6 = .ok (.if_icmp .lt 9, 3) := by decide +kernel
theorem dX8_come_9 : decode cX8_come 9 = .ok (.iload_n 2, 1) := by decide +kernel
theorem dX8_come_10 : decode cX8_come 10 = .ok (.bipush 100, 2) := by decide +kernel
theorem dX8_come_12 : decode cX8_come 12 = .ok (.if_icmp .le 13, 3) := by decide +kernel
theorem dX8_come_15 : decode cX8_come 15 = .ok (.new 93, 3) := by decide +kernel
theorem dX8_come_18 : decode cX8_come 18 = .ok (.dup, 1) := by decide +kernel
theorem dX8_come_19 : decode cX8_come 19 = .ok (.ldc 95, 2) := by decide +kernel
theorem dX8_come_21 : decode cX8_come 21 = .ok (.invokespecial 97, 3) := by decide +kernel
theorem dX8_come_24 : decode cX8_come 24 = .ok (.athrow, 1) := by decide +kernel
theorem dX8_come_25 : decode cX8_come 25 = .ok (.aload_n 0, 1) := by decide +kernel
theorem dX8_come_26 : decode cX8_come 26 = .ok (.iload_n 1, 1) := by decide +kernel
theorem dX8_come_27 : decode cX8_come 27 = .ok (.invokevirtual 98, 3) := by decide +kernel
theorem dX8_come_30 : decode cX8_come 30 = .ok (.getfield 78, 3) := by decide +kernel
theorem dX8_come_33 : decode cX8_come 33 = .ok (.astore_n 3, 1) := by decide +kernel
theorem dX8_come_34 : decode cX8_come 34 = .ok (.iload_n 2, 1) := by decide +kernel
theorem dX8_come_35 : decode cX8_come 35 = .ok (.aload_n 3, 1) := by decide +kernel
theorem dX8_come_36 : decode cX8_come 36 = .ok (.getfield 82, 3) := by decide +kernel
theorem dX8_come_39 : decode cX8_come 39 = .ok (.invokestatic 102, 3) := by decide +kernel
theorem dX8_come_42 : decode cX8_come 42 = .ok (.istore 4, 2) := by decide +kernel
theorem dX8_come_44 : decode cX8_come 44 = .ok (.iconst 0, 1) := by decide +kernel
theorem dX8_come_45 : decode cX8_come 45 = .ok (.istore 5, 2) := by decide +kernel
theorem dX8_come_47 : decode cX8_come 47 = .ok (.iload 5, 2) := by decide +kernel
theorem dX8_come_49 : decode cX8_come 49 = .ok (.iload 4, 2) := by decide +kernel
theorem dX8_come_51 : decode cX8_come 51 = .ok (.if_icmp .ge 58, 3) := by decide +kernel
theorem dX8_come_54 : decode cX8_come 54 = .ok (.aload_n 3, 1) := by decide +kernel
theorem dX8_come_55 : decode cX8_come 55 = .ok (.iconst 0, 1) := by decide +kernel
theorem dX8_come_56 : decode cX8_come 56 = .ok (.invokevirtual 108, 3) := by decide +kernel
theorem dX8_come_59 : decode cX8_come 59 = .ok (.istore 6, 2) := by decide +kernel
theorem dX8_come_61 : decode cX8_come 61 = .ok (.aload_n 3, 1) := by decide +kernel
theorem dX8_come_62 : decode cX8_come 62 = .ok (.iconst 0, 1) := by decide +kernel
theorem dX8_come_63 : decode cX8_come 63 = .ok (.invokevirtual 112, 3) := by decide +kernel
theorem dX8_come_66 : decode cX8_come 66 = .ok (.istore 7, 2) := by decide +kernel
theorem dX8_come_68 : decode cX8_come 68 = .ok (.aload_n 3, 1) := by decide +kernel
theorem dX8_come_69 : decode cX8_come 69 = .ok (.iconst 0, 1) := by decide +kernel
theorem dX8_come_70 : decode cX8_come 70 = .ok (.invokevirtual 115, 3) := by decide +kernel
theorem dX8_come_73 : decode cX8_come 73 = .ok (.istore 8, 2) := by decide +kernel
theorem dX8_come_75 : decode cX8_come 75 = .ok (.aload_n 3, 1) := by decide +kernel
theorem dX8_come_76 : decode cX8_come 76 = .ok (.invokevirtual 119, 3) := by decide +kernel
theorem dX8_come_79 : decode cX8_come 79 = .ok (.iload 8, 2) := by decide +kernel
theorem dX8_come_81 : decode cX8_come 81 = .ok (.ifCond .ne 22, 3) := by decide +kernel
theorem dX8_come_84 : decode cX8_come 84 = .ok (.aload_n 0, 1) := by decide +kernel
theorem dX8_come_85 : decode cX8_come 85 = .ok (.iload_n 1, 1) := by decide +kernel
theorem dX8_come_86 : decode cX8_come 86 = .ok (.iload 6, 2) := by decide +kernel
theorem dX8_come_88 : decode cX8_come 88 = .ok (.iload 7, 2) := by decide +kernel
theorem dX8_come_90 : decode cX8_come 90 = .ok (.invokevirtual 122, 3) := by decide +kernel
theorem dX8_come_93 : decode cX8_come 93 = .ok (.ifCond .eq 10, 3) := by decide +kernel
theorem dX8_come_96 : decode cX8_come 96 = .ok (.aload_n 0, 1) := by decide +kernel
theorem dX8_come_97 : decode cX8_come 97 = .ok (.iload_n 1, 1) := by decide +kernel
theorem dX8_come_98 : decode cX8_come 98 = .ok (.iload 7, 2) := by decide +kernel
theorem dX8_come_100 : decode cX8_come 100 = .ok (.invokevirtual 126, 3) := by decide +kernel
theorem dX8_come_103 : decode cX8_come 103 = .ok (.iinc 5 1, 3) := by decide +kernel
theorem dX8_come_106 : decode cX8_come 106 = .ok (.goto (-59), 3) := by decide +kernel
theorem dX8_come_109 : decode cX8_come 109 = .ok (.iload 4, 2) := by decide +kernel
theorem dX8_come_111 : decode cX8_come 111 = .ok (.ireturn, 1) := by decide +kernel
theorem dX8_garble_0 : decode cX8_garble 0 = .ok (.iload_n 1, 1) := by decide +kernel
theorem dX8_garble_1 : decode cX8_garble 1 = .ok (.invokestatic 90, 3) := by decide +kernel
theorem dX8_garble_4 : decode cX8_garble 4 = .ok (.aload_n 0, 1) := by decide +kernel
theorem dX8_garble_5 : decode cX8_garble 5 = .ok (.iload_n 1, 1) := by decide +kernel
theorem dX8_garble_6 : decode cX8_garble 6 = .ok (.invokevirtual 98, 3) := by decide +kernel
theorem dX8_garble_9 : decode cX8_garble 9 = .ok (.getfield 78, 3) := by decide +kernel
theorem dX8_garble_12 : decode cX8_garble 12 = .ok (.astore_n 3, 1) := by decide +kernel
theorem dX8_garble_13 : decode cX8_garble 13 = .ok (.iload_n 2, 1) := by decide +kernel
theorem dX8_garble_14 : decode cX8_garble 14 = .ok (.ifCond .lt 11, 3) := by decide +kernel
theorem dX8_garble_17 : decode cX8_garble 17 = .ok (.iload_n 2, 1) := by decide +kernel
theorem dX8_garble_18 : decode cX8_garble 18 = .ok (.aload_n 3, 1) := by decide +kernel
theorem dX8_garble_19 : decode cX8_garble 19 = .ok (.getfield 82, 3) := by decide +kernel
theorem dX8_garble_22 : decode cX8_garble 22 = .ok (.if_icmp .lt 13, 3) := by decide +kernel
theorem dX8_garble_25 : decode cX8_garble 25 = .ok (.new 130, 3) := by decide +kernel
theorem dX8_garble_28 : decode cX8_garble 28 = .ok (.dup, 1) := by decide +kernel
theorem dX8_garble_29 : decode cX8_garble 29 = .ok (.ldc 132, 2) := by decide +kernel
theorem dX8_garble_31 : decode cX8_garble 31 = .ok (.invokespecial 134, 3) := by decide +kernel
theorem dX8_garble_34 : decode cX8_garble 34 = .ok (.athrow, 1) := by decide +kernel
theorem dX8_garble_35 : decode cX8_garble 35 = .ok (.aload_n 3, 1) := by decide +kernel
theorem dX8_garble_36 : decode cX8_garble 36 = .ok (.iload_n 2, 1) := by decide +kernel
theorem dX8_garble_37 : decode cX8_garble 37 = .ok (.invokevirtual 135, 3) := by decide +kernel
theorem dX8_garble_40 : decode cX8_garble 40 = .ok (.aload_n 3, 1) := by decide +kernel
theorem dX8_garble_41 : decode cX8_garble 41 = .ok (.iload_n 2, 1) := by decide +kernel
theorem dX8_garble_42 : decode cX8_garble 42 = .ok (.invokevirtual 108, 3) := by decide +kernel
theorem dX8_garble_45 : decode cX8_garble 45 = .ok (.ireturn, 1) := by decide +kernel
theorem dX8_pass_0 : decode cX8_pass 0 = .ok (.iload_n 1, 1) := by decide +kernel
theorem dX8_pass_1 : decode cX8_pass 1 = .ok (.iconst 1, 1) := by decide +kernel
theorem dX8_pass_2 : decode cX8_pass 2 = .ok (.if_icmp .lt 9, 3) := by decide +kernel
theorem dX8_pass_5 : decode cX8_pass 5 = .ok (.iload_n 1, 1) := by decide +kernel
theorem dX8_pass_6 : decode cX8_pass 6 = .ok (.bipush 50, 2) := by decide +kernel
theorem dX8_pass_8 : decode cX8_pass 8 = .ok (.if_icmp .le 13, 3) := by decide +kernel
theorem dX8_pass_11 : decode cX8_pass 11 = .ok (.new 93, 3) := by decide +kernel
theorem dX8_pass_14 : decode cX8_pass 14 = .ok (.dup, 1) := by decide +kernel
theorem dX8_pass_15 : decode cX8_pass 15 = .ok (.ldc 138, 2) := by decide +kernel
theorem dX8_pass_17 : decode cX8_pass 17 = .ok (.invokespecial 97, 3) := by decide +kernel
theorem dX8_pass_20 : decode cX8_pass 20 = .ok (.athrow, 1) := by decide +kernel
theorem dX8_pass_21 : decode cX8_pass 21 = .ok (.aload_n 0, 1) := by decide +kernel
theorem dX8_pass_22 : decode cX8_pass 22 = .ok (.getfield 10, 3) := by decide +kernel
theorem dX8_pass_25 : decode cX8_pass 25 = .ok (.getfield 140, 3) := by decide +kernel
theorem dX8_pass_28 : decode cX8_pass 28 = .ok (.invokevirtual 143, 3) := by decide +kernel
theorem dX8_pass_31 : decode cX8_pass 31 = .ok (.aload_n 0, 1) := by decide +kernel
theorem dX8_pass_32 : decode cX8_pass 32 = .ok (.getfield 16, 3) := by decide +kernel
theorem dX8_pass_35 : decode cX8_pass 35 = .ok (.getfield 140, 3) := by decide +kernel
theorem dX8_pass_38 : decode cX8_pass 38 = .ok (.invokevirtual 143, 3) := by decide +kernel
theorem dX8_pass_41 : decode cX8_pass 41 = .ok (.iadd, 1) := by decide +kernel
theorem dX8_pass_42 : decode cX8_pass 42 = .ok (.istore_n 2, 1) := by decide +kernel
theorem dX8_pass_43 : decode cX8_pass 43 = .ok (.iconst 0, 1) := by decide +kernel
theorem dX8_pass_44 : decode cX8_pass 44 = .ok (.istore_n 3, 1) := by decide +kernel
theorem dX8_pass_45 : decode cX8_pass 45 = .ok (.iload_n 3, 1) := by decide +kernel
theorem dX8_pass_46 : decode cX8_pass 46 = .ok (.iload_n 1, 1) := by decide +kernel
theorem dX8_pass_47 : decode cX8_pass 47 = .ok (.if_icmp .ge 29, 3) := by decide +kernel
theorem dX8_pass_50 : decode cX8_pass 50 = .ok (.aload_n 0, 1) := by decide +kernel
theorem dX8_pass_51 : decode cX8_pass 51 = .ok (.dup, 1) := by decide +kernel
theorem dX8_pass_52 : decode cX8_pass 52 = .ok (.getfield 61, 3) := by decide +kernel
theorem dX8_pass_55 : decode cX8_pass 55 = .ok (.iconst 1, 1) := by decide +kernel
theorem dX8_pass_56 : decode cX8_pass 56 = .ok (.iadd, 1) := by decide +kernel
theorem dX8_pass_57 : decode cX8_pass 57 = .ok (.putfield 61, 3) := by decide +kernel
theorem dX8_pass_60 : decode cX8_pass 60 = .ok (.aload_n 0, 1) := by decide +kernel
theorem dX8_pass_61 : decode cX8_pass 61 = .ok (.iconst 0, 1) := by decide +kernel
theorem dX8_pass_62 : decode cX8_pass 62 = .ok (.invokevirtual 147, 3) := by decide +kernel
theorem dX8_pass_65 : decode cX8_pass 65 = .ok (.aload_n 0, 1) := by decide +kernel
theorem dX8_pass_66 : decode cX8_pass 66 = .ok (.iconst 1, 1) := by decide +kernel
theorem dX8_pass_67 : decode cX8_pass 67 = .ok (.invokevirtual 147, 3) := by decide +kernel
theorem dX8_pass_70 : decode cX8_pass 70 = .ok (.iinc 3 1, 3) := by decide +kernel
theorem dX8_pass_73 : decode cX8_pass 73 = .ok (.goto (-28), 3) := by decide +kernel
theorem dX8_pass_76 : decode cX8_pass 76 = .ok (.aload_n 0, 1) := by decide +kernel
theorem dX8_pass_77 : decode cX8_pass 77 = .ok (.getfield 10, 3) := by decide +kernel
theorem dX8_pass_80 : decode cX8_pass 80 = .ok (.getfield 140, 3) := by decide +kernel
theorem dX8_pass_83 : decode cX8_pass 83 = .ok (.invokevirtual 143, 3) := by decide +kernel
theorem dX8_pass_86 : decode cX8_pass 86 = .ok (.aload_n 0, 1) := by decide +kernel
theorem dX8_pass_87 : decode cX8_pass 87 = .ok (.getfield 16, 3) := by decide +kernel
theorem dX8_pass_90 : decode cX8_pass 90 = .ok (.getfield 140, 3) := by decide +kernel
theorem dX8_pass_93 : decode cX8_pass 93 = .ok (.invokevirtual 143, 3) := by decide +kernel
theorem dX8_pass_96 : decode cX8_pass 96 = .ok (.iadd, 1) := by decide +kernel
theorem dX8_pass_97 : decode cX8_pass 97 = .ok (.iload_n 2, 1) := by decide +kernel
theorem dX8_pass_98 : decode cX8_pass 98 = .ok (.isub, 1) := by decide +kernel
theorem dX8_pass_99 : decode cX8_pass 99 = .ok (.ireturn, 1) := by decide +kernel
theorem dX8_isUp_0 : decode cX8_isUp 0 = .ok (.aload_n 0, 1) := by decide +kernel
theorem dX8_isUp_1 : decode cX8_isUp 1 = .ok (.getfield 47, 3) := by decide +kernel
theorem dX8_isUp_4 : decode cX8_isUp 4 = .ok (.ireturn, 1) := by decide +kernel
theorem dX8_isOn_0 : decode cX8_isOn 0 = .ok (.iload_n 1, 1) := by decide +kernel
theorem dX8_isOn_1 : decode cX8_isOn 1 = .ok (.invokestatic 90, 3) := by decide +kernel
theorem dX8_isOn_4 : decode cX8_isOn 4 = .ok (.aload_n 0, 1) := by decide +kernel
theorem dX8_isOn_5 : decode cX8_isOn 5 = .ok (.iload_n 1, 1) := by decide +kernel
theorem dX8_isOn_6 : decode cX8_isOn 6 = .ok (.invokevirtual 98, 3) := by decide +kernel
theorem dX8_isOn_9 : decode cX8_isOn 9 = .ok (.getfield 150, 3) := by decide +kernel
theorem dX8_isOn_12 : decode cX8_isOn 12 = .ok (.ireturn, 1) := by decide +kernel
theorem dX8_onWay_0 : decode cX8_onWay 0 = .ok (.iload_n 1, 1) := by decide +kernel
theorem dX8_onWay_1 : decode cX8_onWay 1 = .ok (.invokestatic 90, 3) := by decide +kernel
theorem dX8_onWay_4 : decode cX8_onWay 4 = .ok (.aload_n 0, 1) := by decide +kernel
theorem dX8_onWay_5 : decode cX8_onWay 5 = .ok (.iload_n 1, 1) := by decide +kernel
theorem dX8_onWay_6 : decode cX8_onWay 6 = .ok (.invokevirtual 98, 3) := by decide +kernel
theorem dX8_onWay_9 : decode cX8_onWay 9 = .ok (.getfield 78, 3) := by decide +kernel
theorem dX8_onWay_12 : decode cX8_onWay 12 = .ok (.getfield 82, 3) := by decide +kernel
theorem dX8_onWay_15 : decode cX8_onWay 15 = .ok (.ireturn, 1) := by decide +kernel
theorem dX8_sent_0 : decode cX8_sent 0 = .ok (.iload_n 1, 1) := by decide +kernel
theorem dX8_sent_1 : decode cX8_sent 1 = .ok (.invokestatic 90, 3) := by decide +kernel
theorem dX8_sent_4 : decode cX8_sent 4 = .ok (.aload_n 0, 1) := by decide +kernel
theorem dX8_sent_5 : decode cX8_sent 5 = .ok (.iload_n 1, 1) := by decide +kernel
theorem dX8_sent_6 : decode cX8_sent 6 = .ok (.invokevirtual 98, 3) := by decide +kernel
theorem dX8_sent_9 : decode cX8_sent 9 = .ok (.getfield 140, 3) := by decide +kernel
theorem dX8_sent_12 : decode cX8_sent 12 = .ok (.invokevirtual 143, 3) := by decide +kernel
theorem dX8_sent_15 : decode cX8_sent 15 = .ok (.ireturn, 1) := by decide +kernel
theorem dX8_expected_0 : decode cX8_expected 0 = .ok (.iload_n 1, 1) := by decide +kernel
theorem dX8_expected_1 : decode cX8_expected 1 = .ok (.invokestatic 90, 3) := by decide +kernel
theorem dX8_expected_4 : decode cX8_expected 4 = .ok (.aload_n 0, 1) := by decide +kernel
theorem dX8_expected_5 : decode cX8_expected 5 = .ok (.iload_n 1, 1) := by decide +kernel
theorem dX8_expected_6 : decode cX8_expected 6 = .ok (.invokevirtual 98, 3) := by decide +kernel
theorem dX8_expected_9 : decode cX8_expected 9 = .ok (.getfield 153, 3) := by decide +kernel
theorem dX8_expected_12 : decode cX8_expected 12 = .ok (.ireturn, 1) := by decide +kernel
theorem dX8_held_0 : decode cX8_held 0 = .ok (.iload_n 1, 1) := by decide +kernel
theorem dX8_held_1 : decode cX8_held 1 = .ok (.invokestatic 90, 3) := by decide +kernel
theorem dX8_held_4 : decode cX8_held 4 = .ok (.aload_n 0, 1) := by decide +kernel
theorem dX8_held_5 : decode cX8_held 5 = .ok (.iload_n 1, 1) := by decide +kernel
theorem dX8_held_6 : decode cX8_held 6 = .ok (.invokevirtual 98, 3) := by decide +kernel
theorem dX8_held_9 : decode cX8_held 9 = .ok (.getfield 156, 3) := by decide +kernel
theorem dX8_held_12 : decode cX8_held 12 = .ok (.getfield 160, 3) := by decide +kernel
theorem dX8_held_15 : decode cX8_held 15 = .ok (.ireturn, 1) := by decide +kernel
theorem dX8_fields_0 : decode cX8_fields 0 = .ok (.aload_n 0, 1) := by decide +kernel
theorem dX8_fields_1 : decode cX8_fields 1 = .ok (.iload_n 1, 1) := by decide +kernel
theorem dX8_fields_2 : decode cX8_fields 2 = .ok (.iload_n 2, 1) := by decide +kernel
theorem dX8_fields_3 : decode cX8_fields 3 = .ok (.invokevirtual 163, 3) := by decide +kernel
theorem dX8_fields_6 : decode cX8_fields 6 = .ok (.invokevirtual 167, 3) := by decide +kernel
theorem dX8_fields_9 : decode cX8_fields 9 = .ok (.ireturn, 1) := by decide +kernel
theorem dX8_tagAt_0 : decode cX8_tagAt 0 = .ok (.aload_n 0, 1) := by decide +kernel
theorem dX8_tagAt_1 : decode cX8_tagAt 1 = .ok (.iload_n 1, 1) := by decide +kernel
theorem dX8_tagAt_2 : decode cX8_tagAt 2 = .ok (.iload_n 2, 1) := by decide +kernel
theorem dX8_tagAt_3 : decode cX8_tagAt 3 = .ok (.invokevirtual 163, 3) := by decide +kernel
theorem dX8_tagAt_6 : decode cX8_tagAt 6 = .ok (.astore 4, 2) := by decide +kernel
theorem dX8_tagAt_8 : decode cX8_tagAt 8 = .ok (.aload 4, 2) := by decide +kernel
theorem dX8_tagAt_10 : decode cX8_tagAt 10 = .ok (.iload_n 3, 1) := by decide +kernel
theorem dX8_tagAt_11 : decode cX8_tagAt 11 = .ok (.invokevirtual 172, 3) := by decide +kernel
theorem dX8_tagAt_14 : decode cX8_tagAt 14 = .ok (.ifCond .ne 13, 3) := by decide +kernel
theorem dX8_tagAt_17 : decode cX8_tagAt 17 = .ok (.new 130, 3) := by decide +kernel
theorem dX8_tagAt_20 : decode cX8_tagAt 20 = .ok (.dup, 1) := by decide +kernel
theorem dX8_tagAt_21 : decode cX8_tagAt 21 = .ok (.ldc 175, 2) := by decide +kernel
theorem dX8_tagAt_23 : decode cX8_tagAt 23 = .ok (.invokespecial 134, 3) := by decide +kernel
theorem dX8_tagAt_26 : decode cX8_tagAt 26 = .ok (.athrow, 1) := by decide +kernel
theorem dX8_tagAt_27 : decode cX8_tagAt 27 = .ok (.aload 4, 2) := by decide +kernel
theorem dX8_tagAt_29 : decode cX8_tagAt 29 = .ok (.iload_n 3, 1) := by decide +kernel
theorem dX8_tagAt_30 : decode cX8_tagAt 30 = .ok (.invokevirtual 177, 3) := by decide +kernel
theorem dX8_tagAt_33 : decode cX8_tagAt 33 = .ok (.ireturn, 1) := by decide +kernel
theorem dX8_valueAt_0 : decode cX8_valueAt 0 = .ok (.aload_n 0, 1) := by decide +kernel
theorem dX8_valueAt_1 : decode cX8_valueAt 1 = .ok (.iload_n 1, 1) := by decide +kernel
theorem dX8_valueAt_2 : decode cX8_valueAt 2 = .ok (.iload_n 2, 1) := by decide +kernel
theorem dX8_valueAt_3 : decode cX8_valueAt 3 = .ok (.invokevirtual 163, 3) := by decide +kernel
theorem dX8_valueAt_6 : decode cX8_valueAt 6 = .ok (.astore 4, 2) := by decide +kernel
theorem dX8_valueAt_8 : decode cX8_valueAt 8 = .ok (.aload 4, 2) := by decide +kernel
theorem dX8_valueAt_10 : decode cX8_valueAt 10 = .ok (.iload_n 3, 1) := by decide +kernel
theorem dX8_valueAt_11 : decode cX8_valueAt 11 = .ok (.invokevirtual 172, 3) := by decide +kernel
theorem dX8_valueAt_14 : decode cX8_valueAt 14 = .ok (.ifCond .ne 13, 3) := by decide +kernel
theorem dX8_valueAt_17 : decode cX8_valueAt 17 = .ok (.new 130, 3) := by decide +kernel
theorem dX8_valueAt_20 : decode cX8_valueAt 20 = .ok (.dup, 1) := by decide +kernel
theorem dX8_valueAt_21 : decode cX8_valueAt 21 = .ok (.ldc 175, 2) := by decide +kernel
theorem dX8_valueAt_23 : decode cX8_valueAt 23 = .ok (.invokespecial 134, 3) := by decide +kernel
theorem dX8_valueAt_26 : decode cX8_valueAt 26 = .ok (.athrow, 1) := by decide +kernel
theorem dX8_valueAt_27 : decode cX8_valueAt 27 = .ok (.aload 4, 2) := by decide +kernel
theorem dX8_valueAt_29 : decode cX8_valueAt 29 = .ok (.iload_n 3, 1) := by decide +kernel
theorem dX8_valueAt_30 : decode cX8_valueAt 30 = .ok (.invokevirtual 180, 3) := by decide +kernel
theorem dX8_valueAt_33 : decode cX8_valueAt 33 = .ok (.ireturn, 1) := by decide +kernel
theorem dX8_order_0 : decode cX8_order 0 = .ok (.iload_n 2, 1) := by decide +kernel
theorem dX8_order_1 : decode cX8_order 1 = .ok (.iconst 1, 1) := by decide +kernel
theorem dX8_order_2 : decode cX8_order 2 = .ok (.bipush 100, 2) := by decide +kernel
theorem dX8_order_4 : decode cX8_order 4 = .ok (.invokestatic 183, 3) := by decide +kernel
theorem dX8_order_7 : decode cX8_order 7 = .ok (.iload_n 3, 1) := by decide +kernel
theorem dX8_order_8 : decode cX8_order 8 = .ok (.iconst 1, 1) := by decide +kernel
theorem dX8_order_9 : decode cX8_order 9 = .ok (.bipush 100, 2) := by decide +kernel
theorem dX8_order_11 : decode cX8_order 11 = .ok (.invokestatic 183, 3) := by decide +kernel
theorem dX8_order_14 : decode cX8_order 14 = .ok (.aload_n 0, 1) := by decide +kernel
theorem dX8_order_15 : decode cX8_order 15 = .ok (.getfield 22, 3) := by decide +kernel
theorem dX8_order_18 : decode cX8_order 18 = .ok (.invokevirtual 143, 3) := by decide +kernel
theorem dX8_order_21 : decode cX8_order 21 = .ok (.istore 4, 2) := by decide +kernel
theorem dX8_order_23 : decode cX8_order 23 = .ok (.aload_n 0, 1) := by decide +kernel
theorem dX8_order_24 : decode cX8_order 24 = .ok (.getfield 10, 3) := by decide +kernel
theorem dX8_order_27 : decode cX8_order 27 = .ok (.getfield 150, 3) := by decide +kernel
theorem dX8_order_30 : decode cX8_order 30 = .ok (.ifCond .eq 10, 3) := by decide +kernel
theorem dX8_order_33 : decode cX8_order 33 = .ok (.iload 4, 2) := by decide +kernel
theorem dX8_order_35 : decode cX8_order 35 = .ok (.bipush 40, 2) := by decide +kernel
theorem dX8_order_37 : decode cX8_order 37 = .ok (.if_icmp .lt 13, 3) := by decide +kernel
theorem dX8_order_40 : decode cX8_order 40 = .ok (.new 51, 3) := by decide +kernel
theorem dX8_order_43 : decode cX8_order 43 = .ok (.dup, 1) := by decide +kernel
theorem dX8_order_44 : decode cX8_order 44 = .ok (.ldc 187, 2) := by decide +kernel
theorem dX8_order_46 : decode cX8_order 46 = .ok (.invokespecial 55, 3) := by decide +kernel
theorem dX8_order_49 : decode cX8_order 49 = .ok (.athrow, 1) := by decide +kernel
theorem dX8_order_50 : decode cX8_order 50 = .ok (.aload_n 0, 1) := by decide +kernel
theorem dX8_order_51 : decode cX8_order 51 = .ok (.getfield 22, 3) := by decide +kernel
theorem dX8_order_54 : decode cX8_order 54 = .ok (.new 189, 3) := by decide +kernel
theorem dX8_order_57 : decode cX8_order 57 = .ok (.dup, 1) := by decide +kernel
theorem dX8_order_58 : decode cX8_order 58 = .ok (.iload 4, 2) := by decide +kernel
theorem dX8_order_60 : decode cX8_order 60 = .ok (.iload_n 1, 1) := by decide +kernel
theorem dX8_order_61 : decode cX8_order 61 = .ok (.iload_n 2, 1) := by decide +kernel
theorem dX8_order_62 : decode cX8_order 62 = .ok (.iload_n 3, 1) := by decide +kernel
theorem dX8_order_63 : decode cX8_order 63 = .ok (.invokespecial 191, 3) := by decide +kernel
theorem dX8_order_66 : decode cX8_order 66 = .ok (.invokevirtual 194, 3) := by decide +kernel
theorem dX8_order_69 : decode cX8_order 69 = .ok (.pop, 1) := by decide +kernel
theorem dX8_order_70 : decode cX8_order 70 = .ok (.aload_n 0, 1) := by decide +kernel
theorem dX8_order_71 : decode cX8_order 71 = .ok (.iconst 0, 1) := by decide +kernel
theorem dX8_order_72 : decode cX8_order 72 = .ok (.iconst 5, 1) := by decide +kernel
theorem dX8_order_73 : decode cX8_order 73 = .ok (.bipush 8, 2) := by decide +kernel
theorem dX8_order_75 : decode cX8_order 75 = .ok (.newarray .int, 2) := by decide +kernel
theorem dX8_order_77 : decode cX8_order 77 = .ok (.dup, 1) := by decide +kernel
theorem dX8_order_78 : decode cX8_order 78 = .ok (.iconst 0, 1) := by decide +kernel
theorem dX8_order_79 : decode cX8_order 79 = .ok (.bipush 11, 2) := by decide +kernel
theorem dX8_order_81 : decode cX8_order 81 = .ok (.iastore, 1) := by decide +kernel
theorem dX8_order_82 : decode cX8_order 82 = .ok (.dup, 1) := by decide +kernel
theorem dX8_order_83 : decode cX8_order 83 = .ok (.iconst 1, 1) := by decide +kernel
theorem dX8_order_84 : decode cX8_order 84 = .ok (.iload 4, 2) := by decide +kernel
theorem dX8_order_86 : decode cX8_order 86 = .ok (.iastore, 1) := by decide +kernel
theorem dX8_order_87 : decode cX8_order 87 = .ok (.dup, 1) := by decide +kernel
theorem dX8_order_88 : decode cX8_order 88 = .ok (.iconst 2, 1) := by decide +kernel
theorem dX8_order_89 : decode cX8_order 89 = .ok (.bipush 54, 2) := by decide +kernel
theorem dX8_order_91 : decode cX8_order 91 = .ok (.iastore, 1) := by decide +kernel
theorem dX8_order_92 : decode cX8_order 92 = .ok (.dup, 1) := by decide +kernel
theorem dX8_order_93 : decode cX8_order 93 = .ok (.iconst 3, 1) := by decide +kernel
theorem dX8_order_94 : decode cX8_order 94 = .ok (.iload_n 1, 1) := by decide +kernel
theorem dX8_order_95 : decode cX8_order 95 = .ok (.ifCond .eq 7, 3) := by decide +kernel
theorem dX8_order_98 : decode cX8_order 98 = .ok (.iconst 1, 1) := by decide +kernel
theorem dX8_order_99 : decode cX8_order 99 = .ok (.goto 4, 3) := by decide +kernel
theorem dX8_order_102 : decode cX8_order 102 = .ok (.iconst 0, 1) := by decide +kernel
theorem dX8_order_103 : decode cX8_order 103 = .ok (.iastore, 1) := by decide +kernel
theorem dX8_order_104 : decode cX8_order 104 = .ok (.dup, 1) := by decide +kernel
theorem dX8_order_105 : decode cX8_order 105 = .ok (.iconst 4, 1) := by decide +kernel
theorem dX8_order_106 : decode cX8_order 106 = .ok (.bipush 44, 2) := by decide +kernel
theorem dX8_order_108 : decode cX8_order 108 = .ok (.iastore, 1) := by decide +kernel
theorem dX8_order_109 : decode cX8_order 109 = .ok (.dup, 1) := by decide +kernel
theorem dX8_order_110 : decode cX8_order 110 = .ok (.iconst 5, 1) := by decide +kernel
theorem dX8_order_111 : decode cX8_order 111 = .ok (.iload_n 2, 1) := by decide +kernel
theorem dX8_order_112 : decode cX8_order 112 = .ok (.iastore, 1) := by decide +kernel
theorem dX8_order_113 : decode cX8_order 113 = .ok (.dup, 1) := by decide +kernel
theorem dX8_order_114 : decode cX8_order 114 = .ok (.bipush 6, 2) := by decide +kernel
theorem dX8_order_116 : decode cX8_order 116 = .ok (.bipush 38, 2) := by decide +kernel
theorem dX8_order_118 : decode cX8_order 118 = .ok (.iastore, 1) := by decide +kernel
theorem dX8_order_119 : decode cX8_order 119 = .ok (.dup, 1) := by decide +kernel
theorem dX8_order_120 : decode cX8_order 120 = .ok (.bipush 7, 2) := by decide +kernel
theorem dX8_order_122 : decode cX8_order 122 = .ok (.iload_n 3, 1) := by decide +kernel
theorem dX8_order_123 : decode cX8_order 123 = .ok (.iastore, 1) := by decide +kernel
theorem dX8_order_124 : decode cX8_order 124 = .ok (.invokevirtual 72, 3) := by decide +kernel
theorem dX8_order_127 : decode cX8_order 127 = .ok (.iload 4, 2) := by decide +kernel
theorem dX8_order_129 : decode cX8_order 129 = .ok (.ireturn, 1) := by decide +kernel
theorem dX8_cancel_0 : decode cX8_cancel 0 = .ok (.aload_n 0, 1) := by decide +kernel
theorem dX8_cancel_1 : decode cX8_cancel 1 = .ok (.iload_n 1, 1) := by decide +kernel
theorem dX8_cancel_2 : decode cX8_cancel 2 = .ok (.invokevirtual 198, 3) := by decide +kernel
theorem dX8_cancel_5 : decode cX8_cancel 5 = .ok (.astore_n 2, 1) := by decide +kernel
theorem dX8_cancel_6 : decode cX8_cancel 6 = .ok (.aload_n 0, 1) := by decide +kernel
theorem dX8_cancel_7 : decode cX8_cancel 7 = .ok (.aload_n 2, 1) := by decide +kernel
theorem dX8_cancel_8 : decode cX8_cancel 8 = .ok (.invokevirtual 202, 3) := by decide +kernel
theorem dX8_cancel_11 : decode cX8_cancel 11 = .ok (.aload_n 2, 1) := by decide +kernel
theorem dX8_cancel_12 : decode cX8_cancel 12 = .ok (.dup, 1) := by decide +kernel
theorem dX8_cancel_13 : decode cX8_cancel 13 = .ok (.getfield 206, 3) := by decide +kernel
theorem dX8_cancel_16 : decode cX8_cancel 16 = .ok (.iconst 1, 1) := by decide +kernel
theorem dX8_cancel_17 : decode cX8_cancel 17 = .ok (.iadd, 1) := by decide +kernel
theorem dX8_cancel_18 : decode cX8_cancel 18 = .ok (.putfield 206, 3) := by decide +kernel
theorem dX8_cancel_21 : decode cX8_cancel 21 = .ok (.aload_n 0, 1) := by decide +kernel
theorem dX8_cancel_22 : decode cX8_cancel 22 = .ok (.iconst 0, 1) := by decide +kernel
theorem dX8_cancel_23 : decode cX8_cancel 23 = .ok (.bipush 6, 2) := by decide +kernel
theorem dX8_cancel_25 : decode cX8_cancel 25 = .ok (.iconst 2, 1) := by decide +kernel
theorem dX8_cancel_26 : decode cX8_cancel 26 = .ok (.newarray .int, 2) := by decide +kernel
theorem dX8_cancel_28 : decode cX8_cancel 28 = .ok (.dup, 1) := by decide +kernel
theorem dX8_cancel_29 : decode cX8_cancel 29 = .ok (.iconst 0, 1) := by decide +kernel
theorem dX8_cancel_30 : decode cX8_cancel 30 = .ok (.bipush 41, 2) := by decide +kernel
theorem dX8_cancel_32 : decode cX8_cancel 32 = .ok (.iastore, 1) := by decide +kernel
theorem dX8_cancel_33 : decode cX8_cancel 33 = .ok (.dup, 1) := by decide +kernel
theorem dX8_cancel_34 : decode cX8_cancel 34 = .ok (.iconst 1, 1) := by decide +kernel
theorem dX8_cancel_35 : decode cX8_cancel 35 = .ok (.iload_n 1, 1) := by decide +kernel
theorem dX8_cancel_36 : decode cX8_cancel 36 = .ok (.iastore, 1) := by decide +kernel
theorem dX8_cancel_37 : decode cX8_cancel 37 = .ok (.invokevirtual 72, 3) := by decide +kernel
theorem dX8_cancel_40 : decode cX8_cancel 40 = .ok (.aload_n 2, 1) := by decide +kernel
theorem dX8_cancel_41 : decode cX8_cancel 41 = .ok (.getfield 206, 3) := by decide +kernel
theorem dX8_cancel_44 : decode cX8_cancel 44 = .ok (.ireturn, 1) := by decide +kernel
theorem dX8_replace_0 : decode cX8_replace 0 = .ok (.aload_n 0, 1) := by decide +kernel
theorem dX8_replace_1 : decode cX8_replace 1 = .ok (.iload_n 1, 1) := by decide +kernel
theorem dX8_replace_2 : decode cX8_replace 2 = .ok (.invokevirtual 198, 3) := by decide +kernel
theorem dX8_replace_5 : decode cX8_replace 5 = .ok (.astore 4, 2) := by decide +kernel
theorem dX8_replace_7 : decode cX8_replace 7 = .ok (.iload_n 2, 1) := by decide +kernel
theorem dX8_replace_8 : decode cX8_replace 8 = .ok (.iconst 1, 1) := by decide +kernel
theorem dX8_replace_9 : decode cX8_replace 9 = .ok (.bipush 100, 2) := by decide +kernel
theorem dX8_replace_11 : decode cX8_replace 11 = .ok (.invokestatic 183, 3) := by decide +kernel
theorem dX8_replace_14 : decode cX8_replace 14 = .ok (.iload_n 3, 1) := by decide +kernel
theorem dX8_replace_15 : decode cX8_replace 15 = .ok (.iconst 1, 1) := by decide +kernel
theorem dX8_replace_16 : decode cX8_replace 16 = .ok (.bipush 100, 2) := by decide +kernel
theorem dX8_replace_18 : decode cX8_replace 18 = .ok (.invokestatic 183, 3) := by decide +kernel
theorem dX8_replace_21 : decode cX8_replace 21 = .ok (.aload_n 0, 1) := by decide +kernel
theorem dX8_replace_22 : decode cX8_replace 22 = .ok (.aload 4, 2) := by decide +kernel
theorem dX8_replace_24 : decode cX8_replace 24 = .ok (.invokevirtual 202, 3) := by decide +kernel
theorem dX8_replace_27 : decode cX8_replace 27 = .ok (.aload 4, 2) := by decide +kernel
theorem dX8_replace_29 : decode cX8_replace 29 = .ok (.dup, 1) := by decide +kernel
theorem dX8_replace_30 : decode cX8_replace 30 = .ok (.getfield 206, 3) := by decide +kernel
theorem dX8_replace_33 : decode cX8_replace 33 = .ok (.iconst 1, 1) := by decide +kernel
theorem dX8_replace_34 : decode cX8_replace 34 = .ok (.iadd, 1) := by decide +kernel
theorem dX8_replace_35 : decode cX8_replace 35 = .ok (.putfield 206, 3) := by decide +kernel
theorem dX8_replace_38 : decode cX8_replace 38 = .ok (.aload_n 0, 1) := by decide +kernel
theorem dX8_replace_39 : decode cX8_replace 39 = .ok (.iconst 0, 1) := by decide +kernel
theorem dX8_replace_40 : decode cX8_replace 40 = .ok (.bipush 7, 2) := by decide +kernel
theorem dX8_replace_42 : decode cX8_replace 42 = .ok (.bipush 6, 2) := by decide +kernel
theorem dX8_replace_44 : decode cX8_replace 44 = .ok (.newarray .int, 2) := by decide +kernel
theorem dX8_replace_46 : decode cX8_replace 46 = .ok (.dup, 1) := by decide +kernel
theorem dX8_replace_47 : decode cX8_replace 47 = .ok (.iconst 0, 1) := by decide +kernel
theorem dX8_replace_48 : decode cX8_replace 48 = .ok (.bipush 41, 2) := by decide +kernel
theorem dX8_replace_50 : decode cX8_replace 50 = .ok (.iastore, 1) := by decide +kernel
theorem dX8_replace_51 : decode cX8_replace 51 = .ok (.dup, 1) := by decide +kernel
theorem dX8_replace_52 : decode cX8_replace 52 = .ok (.iconst 1, 1) := by decide +kernel
theorem dX8_replace_53 : decode cX8_replace 53 = .ok (.iload_n 1, 1) := by decide +kernel
theorem dX8_replace_54 : decode cX8_replace 54 = .ok (.iastore, 1) := by decide +kernel
theorem dX8_replace_55 : decode cX8_replace 55 = .ok (.dup, 1) := by decide +kernel
theorem dX8_replace_56 : decode cX8_replace 56 = .ok (.iconst 2, 1) := by decide +kernel
theorem dX8_replace_57 : decode cX8_replace 57 = .ok (.bipush 44, 2) := by decide +kernel
theorem dX8_replace_59 : decode cX8_replace 59 = .ok (.iastore, 1) := by decide +kernel
theorem dX8_replace_60 : decode cX8_replace 60 = .ok (.dup, 1) := by decide +kernel
theorem dX8_replace_61 : decode cX8_replace 61 = .ok (.iconst 3, 1) := by decide +kernel
theorem dX8_replace_62 : decode cX8_replace 62 = .ok (.iload_n 2, 1) := by decide +kernel
theorem dX8_replace_63 : decode cX8_replace 63 = .ok (.iastore, 1) := by decide +kernel
theorem dX8_replace_64 : decode cX8_replace 64 = .ok (.dup, 1) := by decide +kernel
theorem dX8_replace_65 : decode cX8_replace 65 = .ok (.iconst 4, 1) := by decide +kernel
theorem dX8_replace_66 : decode cX8_replace 66 = .ok (.bipush 38, 2) := by decide +kernel
theorem dX8_replace_68 : decode cX8_replace 68 = .ok (.iastore, 1) := by decide +kernel
theorem dX8_replace_69 : decode cX8_replace 69 = .ok (.dup, 1) := by decide +kernel
theorem dX8_replace_70 : decode cX8_replace 70 = .ok (.iconst 5, 1) := by decide +kernel
theorem dX8_replace_71 : decode cX8_replace 71 = .ok (.iload_n 3, 1) := by decide +kernel
theorem dX8_replace_72 : decode cX8_replace 72 = .ok (.iastore, 1) := by decide +kernel
theorem dX8_replace_73 : decode cX8_replace 73 = .ok (.invokevirtual 72, 3) := by decide +kernel
theorem dX8_replace_76 : decode cX8_replace 76 = .ok (.aload 4, 2) := by decide +kernel
theorem dX8_replace_78 : decode cX8_replace 78 = .ok (.getfield 206, 3) := by decide +kernel
theorem dX8_replace_81 : decode cX8_replace 81 = .ok (.ireturn, 1) := by decide +kernel
theorem dX8_stateOf_0 : decode cX8_stateOf 0 = .ok (.aload_n 0, 1) := by decide +kernel
theorem dX8_stateOf_1 : decode cX8_stateOf 1 = .ok (.iload_n 1, 1) := by decide +kernel
theorem dX8_stateOf_2 : decode cX8_stateOf 2 = .ok (.invokevirtual 198, 3) := by decide +kernel
theorem dX8_stateOf_5 : decode cX8_stateOf 5 = .ok (.invokevirtual 209, 3) := by decide +kernel
theorem dX8_stateOf_8 : decode cX8_stateOf 8 = .ok (.ireturn, 1) := by decide +kernel
theorem dX8_isLeftOut_0 : decode cX8_isLeftOut 0 = .ok (.aload_n 0, 1) := by decide +kernel
theorem dX8_isLeftOut_1 : decode cX8_isLeftOut 1 = .ok (.iload_n 1, 1) := by decide +kernel
theorem dX8_isLeftOut_2 : decode cX8_isLeftOut 2 = .ok (.invokevirtual 198, 3) := by decide +kernel
theorem dX8_isLeftOut_5 : decode cX8_isLeftOut 5 = .ok (.astore_n 2, 1) := by decide +kernel
theorem dX8_isLeftOut_6 : decode cX8_isLeftOut 6 = .ok (.aload_n 2, 1) := by decide +kernel
theorem dX8_isLeftOut_7 : decode cX8_isLeftOut 7 = .ok (.getfield 212, 3) := by decide +kernel
theorem dX8_isLeftOut_10 : decode cX8_isLeftOut 10 = .ok (.ifCond .eq 14, 3) := by decide +kernel
theorem dX8_isLeftOut_13 : decode cX8_isLeftOut 13 = .ok (.aload_n 2, 1) := by decide +kernel
theorem dX8_isLeftOut_14 : decode cX8_isLeftOut 14 = .ok (.getfield 215, 3) := by decide +kernel
theorem dX8_isLeftOut_17 : decode cX8_isLeftOut 17 = .ok (.ifCond .ne 7, 3) := by decide +kernel
theorem dX8_isLeftOut_20 : decode cX8_isLeftOut 20 = .ok (.iconst 1, 1) := by decide +kernel
theorem dX8_isLeftOut_21 : decode cX8_isLeftOut 21 = .ok (.goto 4, 3) := by decide +kernel
theorem dX8_isLeftOut_24 : decode cX8_isLeftOut 24 = .ok (.iconst 0, 1) := by decide +kernel
theorem dX8_isLeftOut_25 : decode cX8_isLeftOut 25 = .ok (.ireturn, 1) := by decide +kernel
theorem dX8_underWay_0 : decode cX8_underWay 0 = .ok (.aload_n 0, 1) := by decide +kernel
theorem dX8_underWay_1 : decode cX8_underWay 1 = .ok (.iload_n 1, 1) := by decide +kernel
theorem dX8_underWay_2 : decode cX8_underWay 2 = .ok (.invokevirtual 198, 3) := by decide +kernel
theorem dX8_underWay_5 : decode cX8_underWay 5 = .ok (.getfield 206, 3) := by decide +kernel
theorem dX8_underWay_8 : decode cX8_underWay 8 = .ok (.ireturn, 1) := by decide +kernel
theorem dX8_quote_0 : decode cX8_quote 0 = .ok (.aload_n 0, 1) := by decide +kernel
theorem dX8_quote_1 : decode cX8_quote 1 = .ok (.iload_n 1, 1) := by decide +kernel
theorem dX8_quote_2 : decode cX8_quote 2 = .ok (.iload_n 2, 1) := by decide +kernel
theorem dX8_quote_3 : decode cX8_quote 3 = .ok (.invokevirtual 218, 3) := by decide +kernel
theorem dX8_quote_6 : decode cX8_quote 6 = .ok (.astore 5, 2) := by decide +kernel
theorem dX8_quote_8 : decode cX8_quote 8 = .ok (.iload_n 3, 1) := by decide +kernel
theorem dX8_quote_9 : decode cX8_quote 9 = .ok (.iconst 1, 1) := by decide +kernel
theorem dX8_quote_10 : decode cX8_quote 10 = .ok (.bipush 100, 2) := by decide +kernel
theorem dX8_quote_12 : decode cX8_quote 12 = .ok (.invokestatic 183, 3) := by decide +kernel
theorem dX8_quote_15 : decode cX8_quote 15 = .ok (.iload 4, 2) := by decide +kernel
theorem dX8_quote_17 : decode cX8_quote 17 = .ok (.iconst 0, 1) := by decide +kernel
theorem dX8_quote_18 : decode cX8_quote 18 = .ok (.sipush 200, 3) := by decide +kernel
theorem dX8_quote_21 : decode cX8_quote 21 = .ok (.invokestatic 183, 3) := by decide +kernel
theorem dX8_quote_24 : decode cX8_quote 24 = .ok (.aload 5, 2) := by decide +kernel
theorem dX8_quote_26 : decode cX8_quote 26 = .ok (.iload_n 3, 1) := by decide +kernel
theorem dX8_quote_27 : decode cX8_quote 27 = .ok (.putfield 222, 3) := by decide +kernel
theorem dX8_quote_30 : decode cX8_quote 30 = .ok (.aload 5, 2) := by decide +kernel
theorem dX8_quote_32 : decode cX8_quote 32 = .ok (.iload 4, 2) := by decide +kernel
theorem dX8_quote_34 : decode cX8_quote 34 = .ok (.putfield 225, 3) := by decide +kernel
theorem dX8_quote_37 : decode cX8_quote 37 = .ok (.aload_n 0, 1) := by decide +kernel
theorem dX8_quote_38 : decode cX8_quote 38 = .ok (.getfield 32, 3) := by decide +kernel
theorem dX8_quote_41 : decode cX8_quote 41 = .ok (.invokevirtual 143, 3) := by decide +kernel
theorem dX8_quote_44 : decode cX8_quote 44 = .ok (.istore 6, 2) := by decide +kernel
theorem dX8_quote_46 : decode cX8_quote 46 = .ok (.aload_n 0, 1) := by decide +kernel
theorem dX8_quote_47 : decode cX8_quote 47 = .ok (.iload_n 2, 1) := by decide +kernel
theorem dX8_quote_48 : decode cX8_quote 48 = .ok (.invokevirtual 227, 3) := by decide +kernel
theorem dX8_quote_51 : decode cX8_quote 51 = .ok (.astore 7, 2) := by decide +kernel
theorem dX8_quote_53 : decode cX8_quote 53 = .ok (.iconst 0, 1) := by decide +kernel
theorem dX8_quote_54 : decode cX8_quote 54 = .ok (.istore 8, 2) := by decide +kernel
theorem dX8_quote_56 : decode cX8_quote 56 = .ok (.iload 8, 2) := by decide +kernel
theorem dX8_quote_58 : decode cX8_quote 58 = .ok (.aload 7, 2) := by decide +kernel
theorem dX8_quote_60 : decode cX8_quote 60 = .ok (.invokevirtual 143, 3) := by decide +kernel
theorem dX8_quote_63 : decode cX8_quote 63 = .ok (.if_icmp .ge 23, 3) := by decide +kernel
theorem dX8_quote_66 : decode cX8_quote 66 = .ok (.aload_n 0, 1) := by decide +kernel
theorem dX8_quote_67 : decode cX8_quote 67 = .ok (.aload 7, 2) := by decide +kernel
theorem dX8_quote_69 : decode cX8_quote 69 = .ok (.iload 8, 2) := by decide +kernel
theorem dX8_quote_71 : decode cX8_quote 71 = .ok (.invokevirtual 231, 3) := by decide +kernel
theorem dX8_quote_74 : decode cX8_quote 74 = .ok (.checkcast 189, 3) := by decide +kernel
theorem dX8_quote_77 : decode cX8_quote 77 = .ok (.invokevirtual 235, 3) := by decide +kernel
theorem dX8_quote_80 : decode cX8_quote 80 = .ok (.iinc 8 1, 3) := by decide +kernel
theorem dX8_quote_83 : decode cX8_quote 83 = .ok (.goto (-27), 3) := by decide +kernel
theorem dX8_quote_86 : decode cX8_quote 86 = .ok (.aload_n 0, 1) := by decide +kernel
theorem dX8_quote_87 : decode cX8_quote 87 = .ok (.getfield 32, 3) := by decide +kernel
theorem dX8_quote_90 : decode cX8_quote 90 = .ok (.invokevirtual 143, 3) := by decide +kernel
theorem dX8_quote_93 : decode cX8_quote 93 = .ok (.iload 6, 2) := by decide +kernel
theorem dX8_quote_95 : decode cX8_quote 95 = .ok (.isub, 1) := by decide +kernel
theorem dX8_quote_96 : decode cX8_quote 96 = .ok (.ireturn, 1) := by decide +kernel
theorem dX8_quoted_0 : decode cX8_quoted 0 = .ok (.aload_n 0, 1) := by decide +kernel
theorem dX8_quoted_1 : decode cX8_quoted 1 = .ok (.iload_n 1, 1) := by decide +kernel
theorem dX8_quoted_2 : decode cX8_quoted 2 = .ok (.iload_n 2, 1) := by decide +kernel
theorem dX8_quoted_3 : decode cX8_quoted 3 = .ok (.invokevirtual 218, 3) := by decide +kernel
theorem dX8_quoted_6 : decode cX8_quoted 6 = .ok (.getfield 225, 3) := by decide +kernel
theorem dX8_quoted_9 : decode cX8_quoted 9 = .ok (.ireturn, 1) := by decide +kernel
theorem dX8_bust_0 : decode cX8_bust 0 = .ok (.aload_n 0, 1) := by decide +kernel
theorem dX8_bust_1 : decode cX8_bust 1 = .ok (.iload_n 1, 1) := by decide +kernel
theorem dX8_bust_2 : decode cX8_bust 2 = .ok (.invokevirtual 238, 3) := by decide +kernel
theorem dX8_bust_5 : decode cX8_bust 5 = .ok (.astore_n 2, 1) := by decide +kernel
theorem dX8_bust_6 : decode cX8_bust 6 = .ok (.aload_n 2, 1) := by decide +kernel
theorem dX8_bust_7 : decode cX8_bust 7 = .ok (.invokestatic 242, 3) := by decide +kernel
theorem dX8_bust_10 : decode cX8_bust 10 = .ok (.aload_n 2, 1) := by decide +kernel
theorem dX8_bust_11 : decode cX8_bust 11 = .ok (.iconst 1, 1) := by decide +kernel
theorem dX8_bust_12 : decode cX8_bust 12 = .ok (.putfield 246, 3) := by decide +kernel
theorem dX8_bust_15 : decode cX8_bust 15 = .ok (.aload_n 2, 1) := by decide +kernel
theorem dX8_bust_16 : decode cX8_bust 16 = .ok (.getfield 251, 3) := by decide +kernel
theorem dX8_bust_19 : decode cX8_bust 19 = .ok (.getfield 255, 3) := by decide +kernel
theorem dX8_bust_22 : decode cX8_bust 22 = .ok (.astore_n 3, 1) := by decide +kernel
theorem dX8_bust_23 : decode cX8_bust 23 = .ok (.aload_n 3, 1) := by decide +kernel
theorem dX8_bust_24 : decode cX8_bust 24 = .ok (.aload_n 2, 1) := by decide +kernel
theorem dX8_bust_25 : decode cX8_bust 25 = .ok (.getfield 259, 3) := by decide +kernel
theorem dX8_bust_28 : decode cX8_bust 28 = .ok (.invokevirtual 260, 3) := by decide +kernel
theorem dX8_bust_31 : decode cX8_bust 31 = .ok (.aload_n 0, 1) := by decide +kernel
theorem dX8_bust_32 : decode cX8_bust 32 = .ok (.iconst 1, 1) := by decide +kernel
theorem dX8_bust_33 : decode cX8_bust 33 = .ok (.bipush 8, 2) := by decide +kernel
theorem dX8_bust_35 : decode cX8_bust 35 = .ok (.bipush 6, 2) := by decide +kernel
theorem dX8_bust_37 : decode cX8_bust 37 = .ok (.newarray .int, 2) := by decide +kernel
theorem dX8_bust_39 : decode cX8_bust 39 = .ok (.dup, 1) := by decide +kernel
theorem dX8_bust_40 : decode cX8_bust 40 = .ok (.iconst 0, 1) := by decide +kernel
theorem dX8_bust_41 : decode cX8_bust 41 = .ok (.sipush 150, 3) := by decide +kernel
theorem dX8_bust_44 : decode cX8_bust 44 = .ok (.iastore, 1) := by decide +kernel
theorem dX8_bust_45 : decode cX8_bust 45 = .ok (.dup, 1) := by decide +kernel
theorem dX8_bust_46 : decode cX8_bust 46 = .ok (.iconst 1, 1) := by decide +kernel
theorem dX8_bust_47 : decode cX8_bust 47 = .ok (.iconst 5, 1) := by decide +kernel
theorem dX8_bust_48 : decode cX8_bust 48 = .ok (.iastore, 1) := by decide +kernel
theorem dX8_bust_49 : decode cX8_bust 49 = .ok (.dup, 1) := by decide +kernel
theorem dX8_bust_50 : decode cX8_bust 50 = .ok (.iconst 2, 1) := by decide +kernel
theorem dX8_bust_51 : decode cX8_bust 51 = .ok (.bipush 37, 2) := by decide +kernel
theorem dX8_bust_53 : decode cX8_bust 53 = .ok (.iastore, 1) := by decide +kernel
theorem dX8_bust_54 : decode cX8_bust 54 = .ok (.dup, 1) := by decide +kernel
theorem dX8_bust_55 : decode cX8_bust 55 = .ok (.iconst 3, 1) := by decide +kernel
theorem dX8_bust_56 : decode cX8_bust 56 = .ok (.aload_n 2, 1) := by decide +kernel
theorem dX8_bust_57 : decode cX8_bust 57 = .ok (.getfield 251, 3) := by decide +kernel
theorem dX8_bust_60 : decode cX8_bust 60 = .ok (.getfield 265, 3) := by decide +kernel
theorem dX8_bust_63 : decode cX8_bust 63 = .ok (.iastore, 1) := by decide +kernel
theorem dX8_bust_64 : decode cX8_bust 64 = .ok (.dup, 1) := by decide +kernel
theorem dX8_bust_65 : decode cX8_bust 65 = .ok (.iconst 4, 1) := by decide +kernel
theorem dX8_bust_66 : decode cX8_bust 66 = .ok (.bipush 17, 2) := by decide +kernel
theorem dX8_bust_68 : decode cX8_bust 68 = .ok (.iastore, 1) := by decide +kernel
theorem dX8_bust_69 : decode cX8_bust 69 = .ok (.dup, 1) := by decide +kernel
theorem dX8_bust_70 : decode cX8_bust 70 = .ok (.iconst 5, 1) := by decide +kernel
theorem dX8_bust_71 : decode cX8_bust 71 = .ok (.iload_n 1, 1) := by decide +kernel
theorem dX8_bust_72 : decode cX8_bust 72 = .ok (.iastore, 1) := by decide +kernel
theorem dX8_bust_73 : decode cX8_bust 73 = .ok (.invokevirtual 72, 3) := by decide +kernel
theorem dX8_bust_76 : decode cX8_bust 76 = .ok (.aload_n 3, 1) := by decide +kernel
theorem dX8_bust_77 : decode cX8_bust 77 = .ok (.getfield 268, 3) := by decide +kernel
theorem dX8_bust_80 : decode cX8_bust 80 = .ok (.ireturn, 1) := by decide +kernel
theorem dX8_correct_0 : decode cX8_correct 0 = .ok (.aload_n 0, 1) := by decide +kernel
theorem dX8_correct_1 : decode cX8_correct 1 = .ok (.iload_n 1, 1) := by decide +kernel
theorem dX8_correct_2 : decode cX8_correct 2 = .ok (.invokevirtual 238, 3) := by decide +kernel
theorem dX8_correct_5 : decode cX8_correct 5 = .ok (.astore_n 3, 1) := by decide +kernel
theorem dX8_correct_6 : decode cX8_correct 6 = .ok (.iload_n 2, 1) := by decide +kernel
theorem dX8_correct_7 : decode cX8_correct 7 = .ok (.iconst 1, 1) := by decide +kernel
theorem dX8_correct_8 : decode cX8_correct 8 = .ok (.bipush 100, 2) := by decide +kernel
theorem dX8_correct_10 : decode cX8_correct 10 = .ok (.invokestatic 183, 3) := by decide +kernel
theorem dX8_correct_13 : decode cX8_correct 13 = .ok (.aload_n 3, 1) := by decide +kernel
theorem dX8_correct_14 : decode cX8_correct 14 = .ok (.invokestatic 242, 3) := by decide +kernel
theorem dX8_correct_17 : decode cX8_correct 17 = .ok (.aload_n 3, 1) := by decide +kernel
theorem dX8_correct_18 : decode cX8_correct 18 = .ok (.getfield 271, 3) := by decide +kernel
theorem dX8_correct_21 : decode cX8_correct 21 = .ok (.istore 4, 2) := by decide +kernel
theorem dX8_correct_23 : decode cX8_correct 23 = .ok (.aload_n 3, 1) := by decide +kernel
theorem dX8_correct_24 : decode cX8_correct 24 = .ok (.iload_n 2, 1) := by decide +kernel
theorem dX8_correct_25 : decode cX8_correct 25 = .ok (.putfield 271, 3) := by decide +kernel
theorem dX8_correct_28 : decode cX8_correct 28 = .ok (.aload_n 0, 1) := by decide +kernel
theorem dX8_correct_29 : decode cX8_correct 29 = .ok (.iconst 1, 1) := by decide +kernel
theorem dX8_correct_30 : decode cX8_correct 30 = .ok (.bipush 8, 2) := by decide +kernel
theorem dX8_correct_32 : decode cX8_correct 32 = .ok (.bipush 8, 2) := by decide +kernel
theorem dX8_correct_34 : decode cX8_correct 34 = .ok (.newarray .int, 2) := by decide +kernel
theorem dX8_correct_36 : decode cX8_correct 36 = .ok (.dup, 1) := by decide +kernel
theorem dX8_correct_37 : decode cX8_correct 37 = .ok (.iconst 0, 1) := by decide +kernel
theorem dX8_correct_38 : decode cX8_correct 38 = .ok (.sipush 150, 3) := by decide +kernel
theorem dX8_correct_41 : decode cX8_correct 41 = .ok (.iastore, 1) := by decide +kernel
theorem dX8_correct_42 : decode cX8_correct 42 = .ok (.dup, 1) := by decide +kernel
theorem dX8_correct_43 : decode cX8_correct 43 = .ok (.iconst 1, 1) := by decide +kernel
theorem dX8_correct_44 : decode cX8_correct 44 = .ok (.bipush 6, 2) := by decide +kernel
theorem dX8_correct_46 : decode cX8_correct 46 = .ok (.iastore, 1) := by decide +kernel
theorem dX8_correct_47 : decode cX8_correct 47 = .ok (.dup, 1) := by decide +kernel
theorem dX8_correct_48 : decode cX8_correct 48 = .ok (.iconst 2, 1) := by decide +kernel
theorem dX8_correct_49 : decode cX8_correct 49 = .ok (.bipush 37, 2) := by decide +kernel
theorem dX8_correct_51 : decode cX8_correct 51 = .ok (.iastore, 1) := by decide +kernel
theorem dX8_correct_52 : decode cX8_correct 52 = .ok (.dup, 1) := by decide +kernel
theorem dX8_correct_53 : decode cX8_correct 53 = .ok (.iconst 3, 1) := by decide +kernel
theorem dX8_correct_54 : decode cX8_correct 54 = .ok (.aload_n 3, 1) := by decide +kernel
theorem dX8_correct_55 : decode cX8_correct 55 = .ok (.getfield 251, 3) := by decide +kernel
theorem dX8_correct_58 : decode cX8_correct 58 = .ok (.getfield 265, 3) := by decide +kernel
theorem dX8_correct_61 : decode cX8_correct 61 = .ok (.iastore, 1) := by decide +kernel
theorem dX8_correct_62 : decode cX8_correct 62 = .ok (.dup, 1) := by decide +kernel
theorem dX8_correct_63 : decode cX8_correct 63 = .ok (.iconst 4, 1) := by decide +kernel
theorem dX8_correct_64 : decode cX8_correct 64 = .ok (.bipush 17, 2) := by decide +kernel
theorem dX8_correct_66 : decode cX8_correct 66 = .ok (.iastore, 1) := by decide +kernel
theorem dX8_correct_67 : decode cX8_correct 67 = .ok (.dup, 1) := by decide +kernel
theorem dX8_correct_68 : decode cX8_correct 68 = .ok (.iconst 5, 1) := by decide +kernel
theorem dX8_correct_69 : decode cX8_correct 69 = .ok (.iload_n 1, 1) := by decide +kernel
theorem dX8_correct_70 : decode cX8_correct 70 = .ok (.iastore, 1) := by decide +kernel
theorem dX8_correct_71 : decode cX8_correct 71 = .ok (.dup, 1) := by decide +kernel
theorem dX8_correct_72 : decode cX8_correct 72 = .ok (.bipush 6, 2) := by decide +kernel
theorem dX8_correct_74 : decode cX8_correct 74 = .ok (.bipush 31, 2) := by decide +kernel
theorem dX8_correct_76 : decode cX8_correct 76 = .ok (.iastore, 1) := by decide +kernel
theorem dX8_correct_77 : decode cX8_correct 77 = .ok (.dup, 1) := by decide +kernel
theorem dX8_correct_78 : decode cX8_correct 78 = .ok (.bipush 7, 2) := by decide +kernel
theorem dX8_correct_80 : decode cX8_correct 80 = .ok (.iload_n 2, 1) := by decide +kernel
theorem dX8_correct_81 : decode cX8_correct 81 = .ok (.iastore, 1) := by decide +kernel
theorem dX8_correct_82 : decode cX8_correct 82 = .ok (.invokevirtual 72, 3) := by decide +kernel
theorem dX8_correct_85 : decode cX8_correct 85 = .ok (.iload 4, 2) := by decide +kernel
theorem dX8_correct_87 : decode cX8_correct 87 = .ok (.ireturn, 1) := by decide +kernel
theorem dX8_executions_0 : decode cX8_executions 0 = .ok (.aload_n 0, 1) := by decide +kernel
theorem dX8_executions_1 : decode cX8_executions 1 = .ok (.getfield 32, 3) := by decide +kernel
theorem dX8_executions_4 : decode cX8_executions 4 = .ok (.invokevirtual 143, 3) := by decide +kernel
theorem dX8_executions_7 : decode cX8_executions 7 = .ok (.ireturn, 1) := by decide +kernel
theorem dX8_endDay_0 : decode cX8_endDay 0 = .ok (.aload_n 0, 1) := by decide +kernel
theorem dX8_endDay_1 : decode cX8_endDay 1 = .ok (.dup, 1) := by decide +kernel
theorem dX8_endDay_2 : decode cX8_endDay 2 = .ok (.getfield 272, 3) := by decide +kernel
theorem dX8_endDay_5 : decode cX8_endDay 5 = .ok (.iconst 1, 1) := by decide +kernel
theorem dX8_endDay_6 : decode cX8_endDay 6 = .ok (.iadd, 1) := by decide +kernel
theorem dX8_endDay_7 : decode cX8_endDay 7 = .ok (.putfield 272, 3) := by decide +kernel
theorem dX8_endDay_10 : decode cX8_endDay 10 = .ok (.aload_n 0, 1) := by decide +kernel
theorem dX8_endDay_11 : decode cX8_endDay 11 = .ok (.getfield 272, 3) := by decide +kernel
theorem dX8_endDay_14 : decode cX8_endDay 14 = .ok (.ireturn, 1) := by decide +kernel
theorem dX8_orders_0 : decode cX8_orders 0 = .ok (.aload_n 0, 1) := by decide +kernel
theorem dX8_orders_1 : decode cX8_orders 1 = .ok (.getfield 22, 3) := by decide +kernel
theorem dX8_orders_4 : decode cX8_orders 4 = .ok (.invokevirtual 143, 3) := by decide +kernel
theorem dX8_orders_7 : decode cX8_orders 7 = .ok (.ireturn, 1) := by decide +kernel
theorem dX8_left_0 : decode cX8_left 0 = .ok (.iload_n 1, 1) := by decide +kernel
theorem dX8_left_1 : decode cX8_left 1 = .ok (.invokestatic 90, 3) := by decide +kernel
theorem dX8_left_4 : decode cX8_left 4 = .ok (.aload_n 0, 1) := by decide +kernel
theorem dX8_left_5 : decode cX8_left 5 = .ok (.iload_n 2, 1) := by decide +kernel
theorem dX8_left_6 : decode cX8_left 6 = .ok (.invokevirtual 198, 3) := by decide +kernel
theorem dX8_left_9 : decode cX8_left 9 = .ok (.astore_n 3, 1) := by decide +kernel
theorem dX8_left_10 : decode cX8_left 10 = .ok (.aload_n 3, 1) := by decide +kernel
theorem dX8_left_11 : decode cX8_left 11 = .ok (.iload_n 1, 1) := by decide +kernel
theorem dX8_left_12 : decode cX8_left 12 = .ok (.invokevirtual 275, 3) := by decide +kernel
theorem dX8_left_15 : decode cX8_left 15 = .ok (.ifCond .eq 11, 3) := by decide +kernel
theorem dX8_left_18 : decode cX8_left 18 = .ok (.aload_n 3, 1) := by decide +kernel
theorem dX8_left_19 : decode cX8_left 19 = .ok (.iload_n 1, 1) := by decide +kernel
theorem dX8_left_20 : decode cX8_left 20 = .ok (.invokevirtual 278, 3) := by decide +kernel
theorem dX8_left_23 : decode cX8_left 23 = .ok (.goto 4, 3) := by decide +kernel
theorem dX8_left_26 : decode cX8_left 26 = .ok (.iconst (-1), 1) := by decide +kernel
theorem dX8_left_27 : decode cX8_left 27 = .ok (.ireturn, 1) := by decide +kernel
theorem dX8_done_0 : decode cX8_done 0 = .ok (.iload_n 1, 1) := by decide +kernel
theorem dX8_done_1 : decode cX8_done 1 = .ok (.invokestatic 90, 3) := by decide +kernel
theorem dX8_done_4 : decode cX8_done 4 = .ok (.aload_n 0, 1) := by decide +kernel
theorem dX8_done_5 : decode cX8_done 5 = .ok (.iload_n 2, 1) := by decide +kernel
theorem dX8_done_6 : decode cX8_done 6 = .ok (.invokevirtual 198, 3) := by decide +kernel
theorem dX8_done_9 : decode cX8_done 9 = .ok (.astore_n 3, 1) := by decide +kernel
theorem dX8_done_10 : decode cX8_done 10 = .ok (.aload_n 3, 1) := by decide +kernel
theorem dX8_done_11 : decode cX8_done 11 = .ok (.iload_n 1, 1) := by decide +kernel
theorem dX8_done_12 : decode cX8_done 12 = .ok (.invokevirtual 275, 3) := by decide +kernel
theorem dX8_done_15 : decode cX8_done 15 = .ok (.ifCond .eq 14, 3) := by decide +kernel
theorem dX8_done_18 : decode cX8_done 18 = .ok (.aload_n 3, 1) := by decide +kernel
theorem dX8_done_19 : decode cX8_done 19 = .ok (.iload_n 1, 1) := by decide +kernel
theorem dX8_done_20 : decode cX8_done 20 = .ok (.invokevirtual 281, 3) := by decide +kernel
theorem dX8_done_23 : decode cX8_done 23 = .ok (.getfield 268, 3) := by decide +kernel
theorem dX8_done_26 : decode cX8_done 26 = .ok (.goto 4, 3) := by decide +kernel
theorem dX8_done_29 : decode cX8_done 29 = .ok (.iconst (-1), 1) := by decide +kernel
theorem dX8_done_30 : decode cX8_done 30 = .ok (.ireturn, 1) := by decide +kernel
theorem dX8_doneByLog_0 : decode cX8_doneByLog 0 = .ok (.iload_n 1, 1) := by decide +kernel
theorem dX8_doneByLog_1 : decode cX8_doneByLog 1 = .ok (.invokestatic 90, 3) := by decide +kernel
theorem dX8_doneByLog_4 : decode cX8_doneByLog 4 = .ok (.aload_n 0, 1) := by decide +kernel
theorem dX8_doneByLog_5 : decode cX8_doneByLog 5 = .ok (.iload_n 2, 1) := by decide +kernel
theorem dX8_doneByLog_6 : decode cX8_doneByLog 6 = .ok (.invokevirtual 198, 3) := by decide +kernel
theorem dX8_doneByLog_9 : decode cX8_doneByLog 9 = .ok (.astore_n 3, 1) := by decide +kernel
theorem dX8_doneByLog_10 : decode cX8_doneByLog 10 = .ok (.aload_n 3, 1) := by decide +kernel
theorem dX8_doneByLog_11 : decode cX8_doneByLog 11 = .ok (.iload_n 1, 1) := by decide +kernel
theorem dX8_doneByLog_12 : decode cX8_doneByLog 12 = .ok (.invokevirtual 275, 3) := by decide +kernel
theorem dX8_doneByLog_15 : decode cX8_doneByLog 15 = .ok (.ifCond .ne 5, 3) := by decide +kernel
theorem dX8_doneByLog_18 : decode cX8_doneByLog 18 = .ok (.iconst (-1), 1) := by decide +kernel
theorem dX8_doneByLog_19 : decode cX8_doneByLog 19 = .ok (.ireturn, 1) := by decide +kernel
theorem dX8_doneByLog_20 : decode cX8_doneByLog 20 = .ok (.iconst 0, 1) := by decide +kernel
theorem dX8_doneByLog_21 : decode cX8_doneByLog 21 = .ok (.istore 4, 2) := by decide +kernel
theorem dX8_doneByLog_23 : decode cX8_doneByLog 23 = .ok (.iconst 0, 1) := by decide +kernel
theorem dX8_doneByLog_24 : decode cX8_doneByLog 24 = .ok (.istore 5, 2) := by decide +kernel
theorem dX8_doneByLog_26 : decode cX8_doneByLog 26 = .ok (.iload 5, 2) := by decide +kernel
theorem dX8_doneByLog_28 : decode cX8_doneByLog 28 = .ok (.aload_n 0, 1) := by decide +kernel
theorem dX8_doneByLog_29 : decode cX8_doneByLog 29 = .ok (.getfield 32, 3) := by decide +kernel
theorem dX8_doneByLog_32 : decode cX8_doneByLog 32 = .ok (.invokevirtual 143, 3) := by decide +kernel
theorem dX8_doneByLog_35 : decode cX8_doneByLog 35 = .ok (.if_icmp .ge 51, 3) := by decide +kernel
theorem dX8_doneByLog_38 : decode cX8_doneByLog 38 = .ok (.aload_n 0, 1) := by decide +kernel
theorem dX8_doneByLog_39 : decode cX8_doneByLog 39 = .ok (.getfield 32, 3) := by decide +kernel
theorem dX8_doneByLog_42 : decode cX8_doneByLog 42 = .ok (.iload 5, 2) := by decide +kernel
theorem dX8_doneByLog_44 : decode cX8_doneByLog 44 = .ok (.invokevirtual 231, 3) := by decide +kernel
theorem dX8_doneByLog_47 : decode cX8_doneByLog 47 = .ok (.checkcast 247, 3) := by decide +kernel
theorem dX8_doneByLog_50 : decode cX8_doneByLog 50 = .ok (.astore 6, 2) := by decide +kernel
theorem dX8_doneByLog_52 : decode cX8_doneByLog 52 = .ok (.aload 6, 2) := by decide +kernel
theorem dX8_doneByLog_54 : decode cX8_doneByLog 54 = .ok (.getfield 251, 3) := by decide +kernel
theorem dX8_doneByLog_57 : decode cX8_doneByLog 57 = .ok (.aload_n 3, 1) := by decide +kernel
theorem dX8_doneByLog_58 : decode cX8_doneByLog 58 = .ok (.if_acmp .ne 22, 3) := by decide +kernel
theorem dX8_doneByLog_61 : decode cX8_doneByLog 61 = .ok (.aload 6, 2) := by decide +kernel
theorem dX8_doneByLog_63 : decode cX8_doneByLog 63 = .ok (.iload_n 1, 1) := by decide +kernel
theorem dX8_doneByLog_64 : decode cX8_doneByLog 64 = .ok (.invokevirtual 285, 3) := by decide +kernel
theorem dX8_doneByLog_67 : decode cX8_doneByLog 67 = .ok (.ifCond .eq 13, 3) := by decide +kernel
theorem dX8_doneByLog_70 : decode cX8_doneByLog 70 = .ok (.iload 4, 2) := by decide +kernel
theorem dX8_doneByLog_72 : decode cX8_doneByLog 72 = .ok (.aload 6, 2) := by decide +kernel
theorem dX8_doneByLog_74 : decode cX8_doneByLog 74 = .ok (.getfield 259, 3) := by decide +kernel
theorem dX8_doneByLog_77 : decode cX8_doneByLog 77 = .ok (.iadd, 1) := by decide +kernel
theorem dX8_doneByLog_78 : decode cX8_doneByLog 78 = .ok (.istore 4, 2) := by decide +kernel
theorem dX8_doneByLog_80 : decode cX8_doneByLog 80 = .ok (.iinc 5 1, 3) := by decide +kernel
theorem dX8_doneByLog_83 : decode cX8_doneByLog 83 = .ok (.goto (-57), 3) := by decide +kernel
theorem dX8_doneByLog_86 : decode cX8_doneByLog 86 = .ok (.iload 4, 2) := by decide +kernel
theorem dX8_doneByLog_88 : decode cX8_doneByLog 88 = .ok (.ireturn, 1) := by decide +kernel
theorem dX8_out_0 : decode cX8_out 0 = .ok (.iload_n 1, 1) := by decide +kernel
theorem dX8_out_1 : decode cX8_out 1 = .ok (.invokestatic 90, 3) := by decide +kernel
theorem dX8_out_4 : decode cX8_out 4 = .ok (.aload_n 0, 1) := by decide +kernel
theorem dX8_out_5 : decode cX8_out 5 = .ok (.iload_n 2, 1) := by decide +kernel
theorem dX8_out_6 : decode cX8_out 6 = .ok (.invokevirtual 198, 3) := by decide +kernel
theorem dX8_out_9 : decode cX8_out 9 = .ok (.astore_n 3, 1) := by decide +kernel
theorem dX8_out_10 : decode cX8_out 10 = .ok (.aload_n 3, 1) := by decide +kernel
theorem dX8_out_11 : decode cX8_out 11 = .ok (.iload_n 1, 1) := by decide +kernel
theorem dX8_out_12 : decode cX8_out 12 = .ok (.invokevirtual 275, 3) := by decide +kernel
theorem dX8_out_15 : decode cX8_out 15 = .ok (.ifCond .eq 14, 3) := by decide +kernel
theorem dX8_out_18 : decode cX8_out 18 = .ok (.aload_n 3, 1) := by decide +kernel
theorem dX8_out_19 : decode cX8_out 19 = .ok (.iload_n 1, 1) := by decide +kernel
theorem dX8_out_20 : decode cX8_out 20 = .ok (.invokevirtual 281, 3) := by decide +kernel
theorem dX8_out_23 : decode cX8_out 23 = .ok (.getfield 288, 3) := by decide +kernel
theorem dX8_out_26 : decode cX8_out 26 = .ok (.goto 4, 3) := by decide +kernel
theorem dX8_out_29 : decode cX8_out 29 = .ok (.iconst (-1), 1) := by decide +kernel
theorem dX8_out_30 : decode cX8_out 30 = .ok (.ireturn, 1) := by decide +kernel
theorem dX8_venues_0 : decode cX8_venues 0 = .ok (.aload_n 0, 1) := by decide +kernel
theorem dX8_venues_1 : decode cX8_venues 1 = .ok (.iload_n 1, 1) := by decide +kernel
theorem dX8_venues_2 : decode cX8_venues 2 = .ok (.invokevirtual 198, 3) := by decide +kernel
theorem dX8_venues_5 : decode cX8_venues 5 = .ok (.astore_n 2, 1) := by decide +kernel
theorem dX8_venues_6 : decode cX8_venues 6 = .ok (.iconst 0, 1) := by decide +kernel
theorem dX8_venues_7 : decode cX8_venues 7 = .ok (.istore_n 3, 1) := by decide +kernel
theorem dX8_venues_8 : decode cX8_venues 8 = .ok (.iconst 0, 1) := by decide +kernel
theorem dX8_venues_9 : decode cX8_venues 9 = .ok (.istore 4, 2) := by decide +kernel
theorem dX8_venues_11 : decode cX8_venues 11 = .ok (.iload 4, 2) := by decide +kernel
theorem dX8_venues_13 : decode cX8_venues 13 = .ok (.iconst 3, 1) := by decide +kernel
theorem dX8_venues_14 : decode cX8_venues 14 = .ok (.if_icmp .ge 22, 3) := by decide +kernel
theorem dX8_venues_17 : decode cX8_venues 17 = .ok (.aload_n 0, 1) := by decide +kernel
theorem dX8_venues_18 : decode cX8_venues 18 = .ok (.aload_n 2, 1) := by decide +kernel
theorem dX8_venues_19 : decode cX8_venues 19 = .ok (.iload 4, 2) := by decide +kernel
theorem dX8_venues_21 : decode cX8_venues 21 = .ok (.invokevirtual 291, 3) := by decide +kernel
theorem dX8_venues_24 : decode cX8_venues 24 = .ok (.ifCond .eq 6, 3) := by decide +kernel
theorem dX8_venues_27 : decode cX8_venues 27 = .ok (.iinc 3 1, 3) := by decide +kernel
theorem dX8_venues_30 : decode cX8_venues 30 = .ok (.iinc 4 1, 3) := by decide +kernel
theorem dX8_venues_33 : decode cX8_venues 33 = .ok (.goto (-22), 3) := by decide +kernel
theorem dX8_venues_36 : decode cX8_venues 36 = .ok (.iload_n 3, 1) := by decide +kernel
theorem dX8_venues_37 : decode cX8_venues 37 = .ok (.ireturn, 1) := by decide +kernel
theorem dX8_total_0 : decode cX8_total 0 = .ok (.iload_n 1, 1) := by decide +kernel
theorem dX8_total_1 : decode cX8_total 1 = .ok (.invokestatic 90, 3) := by decide +kernel
theorem dX8_total_4 : decode cX8_total 4 = .ok (.iload_n 2, 1) := by decide +kernel
theorem dX8_total_5 : decode cX8_total 5 = .ok (.ifCond .lt 11, 3) := by decide +kernel
theorem dX8_total_8 : decode cX8_total 8 = .ok (.iload_n 2, 1) := by decide +kernel
theorem dX8_total_9 : decode cX8_total 9 = .ok (.aload_n 0, 1) := by decide +kernel
theorem dX8_total_10 : decode cX8_total 10 = .ok (.getfield 272, 3) := by decide +kernel
theorem dX8_total_13 : decode cX8_total 13 = .ok (.if_icmp .le 14, 3) := by decide +kernel
theorem dX8_total_16 : decode cX8_total 16 = .ok (.new 130, 3) := by decide +kernel
theorem dX8_total_19 : decode cX8_total 19 = .ok (.dup, 1) := by decide +kernel
theorem dX8_total_20 : decode cX8_total 20 = .ok (.ldc_w 295, 3) := by decide +kernel
theorem dX8_total_23 : decode cX8_total 23 = .ok (.invokespecial 134, 3) := by decide +kernel
theorem dX8_total_26 : decode cX8_total 26 = .ok (.athrow, 1) := by decide +kernel
theorem dX8_total_27 : decode cX8_total 27 = .ok (.iload 4, 2) := by decide +kernel
theorem dX8_total_29 : decode cX8_total 29 = .ok (.iconst 0, 1) := by decide +kernel
theorem dX8_total_30 : decode cX8_total 30 = .ok (.iconst 1, 1) := by decide +kernel
theorem dX8_total_31 : decode cX8_total 31 = .ok (.invokestatic 183, 3) := by decide +kernel
theorem dX8_total_34 : decode cX8_total 34 = .ok (.iconst 0, 1) := by decide +kernel
theorem dX8_total_35 : decode cX8_total 35 = .ok (.istore 5, 2) := by decide +kernel
theorem dX8_total_37 : decode cX8_total 37 = .ok (.iconst 0, 1) := by decide +kernel
theorem dX8_total_38 : decode cX8_total 38 = .ok (.istore 6, 2) := by decide +kernel
theorem dX8_total_40 : decode cX8_total 40 = .ok (.iload 6, 2) := by decide +kernel
theorem dX8_total_42 : decode cX8_total 42 = .ok (.aload_n 0, 1) := by decide +kernel
theorem dX8_total_43 : decode cX8_total 43 = .ok (.getfield 32, 3) := by decide +kernel
theorem dX8_total_46 : decode cX8_total 46 = .ok (.invokevirtual 143, 3) := by decide +kernel
theorem dX8_total_49 : decode cX8_total 49 = .ok (.if_icmp .ge 83, 3) := by decide +kernel
theorem dX8_total_52 : decode cX8_total 52 = .ok (.aload_n 0, 1) := by decide +kernel
theorem dX8_total_53 : decode cX8_total 53 = .ok (.getfield 32, 3) := by decide +kernel
theorem dX8_total_56 : decode cX8_total 56 = .ok (.iload 6, 2) := by decide +kernel
theorem dX8_total_58 : decode cX8_total 58 = .ok (.invokevirtual 231, 3) := by decide +kernel
theorem dX8_total_61 : decode cX8_total 61 = .ok (.checkcast 247, 3) := by decide +kernel
theorem dX8_total_64 : decode cX8_total 64 = .ok (.astore 7, 2) := by decide +kernel
theorem dX8_total_66 : decode cX8_total 66 = .ok (.aload 7, 2) := by decide +kernel
theorem dX8_total_68 : decode cX8_total 68 = .ok (.getfield 297, 3) := by decide +kernel
theorem dX8_total_71 : decode cX8_total 71 = .ok (.iload_n 2, 1) := by decide +kernel
theorem dX8_total_72 : decode cX8_total 72 = .ok (.if_icmp .ne 54, 3) := by decide +kernel
theorem dX8_total_75 : decode cX8_total 75 = .ok (.aload 7, 2) := by decide +kernel
theorem dX8_total_77 : decode cX8_total 77 = .ok (.getfield 251, 3) := by decide +kernel
theorem dX8_total_80 : decode cX8_total 80 = .ok (.getfield 300, 3) := by decide +kernel
theorem dX8_total_83 : decode cX8_total 83 = .ok (.iload_n 3, 1) := by decide +kernel
theorem dX8_total_84 : decode cX8_total 84 = .ok (.if_icmp .ne 42, 3) := by decide +kernel
theorem dX8_total_87 : decode cX8_total 87 = .ok (.aload 7, 2) := by decide +kernel
theorem dX8_total_89 : decode cX8_total 89 = .ok (.iload_n 1, 1) := by decide +kernel
theorem dX8_total_90 : decode cX8_total 90 = .ok (.invokevirtual 285, 3) := by decide +kernel
theorem dX8_total_93 : decode cX8_total 93 = .ok (.ifCond .eq 33, 3) := by decide +kernel
theorem dX8_total_96 : decode cX8_total 96 = .ok (.iload 5, 2) := by decide +kernel
theorem dX8_total_98 : decode cX8_total 98 = .ok (.iload 4, 2) := by decide +kernel
theorem dX8_total_100 : decode cX8_total 100 = .ok (.ifCond .ne 11, 3) := by decide +kernel
theorem dX8_total_103 : decode cX8_total 103 = .ok (.aload 7, 2) := by decide +kernel
theorem dX8_total_105 : decode cX8_total 105 = .ok (.getfield 259, 3) := by decide +kernel
theorem dX8_total_108 : decode cX8_total 108 = .ok (.goto 15, 3) := by decide +kernel
theorem dX8_total_111 : decode cX8_total 111 = .ok (.aload 7, 2) := by decide +kernel
theorem dX8_total_113 : decode cX8_total 113 = .ok (.getfield 259, 3) := by decide +kernel
theorem dX8_total_116 : decode cX8_total 116 = .ok (.aload 7, 2) := by decide +kernel
theorem dX8_total_118 : decode cX8_total 118 = .ok (.iload_n 1, 1) := by decide +kernel
theorem dX8_total_119 : decode cX8_total 119 = .ok (.invokevirtual 303, 3) := by decide +kernel
theorem dX8_total_122 : decode cX8_total 122 = .ok (.imul, 1) := by decide +kernel
theorem dX8_total_123 : decode cX8_total 123 = .ok (.iadd, 1) := by decide +kernel
theorem dX8_total_124 : decode cX8_total 124 = .ok (.istore 5, 2) := by decide +kernel
theorem dX8_total_126 : decode cX8_total 126 = .ok (.iinc 6 1, 3) := by decide +kernel
theorem dX8_total_129 : decode cX8_total 129 = .ok (.goto (-89), 3) := by decide +kernel
theorem dX8_total_132 : decode cX8_total 132 = .ok (.iload 5, 2) := by decide +kernel
theorem dX8_total_134 : decode cX8_total 134 = .ok (.ireturn, 1) := by decide +kernel
theorem dX8_agree_0 : decode cX8_agree 0 = .ok (.iconst 0, 1) := by decide +kernel
theorem dX8_agree_1 : decode cX8_agree 1 = .ok (.istore_n 1, 1) := by decide +kernel
theorem dX8_agree_2 : decode cX8_agree 2 = .ok (.iload_n 1, 1) := by decide +kernel
theorem dX8_agree_3 : decode cX8_agree 3 = .ok (.aload_n 0, 1) := by decide +kernel
theorem dX8_agree_4 : decode cX8_agree 4 = .ok (.getfield 22, 3) := by decide +kernel
theorem dX8_agree_7 : decode cX8_agree 7 = .ok (.invokevirtual 143, 3) := by decide +kernel
theorem dX8_agree_10 : decode cX8_agree 10 = .ok (.if_icmp .ge 37, 3) := by decide +kernel
theorem dX8_agree_13 : decode cX8_agree 13 = .ok (.aload_n 0, 1) := by decide +kernel
theorem dX8_agree_14 : decode cX8_agree 14 = .ok (.getfield 22, 3) := by decide +kernel
theorem dX8_agree_17 : decode cX8_agree 17 = .ok (.iload_n 1, 1) := by decide +kernel
theorem dX8_agree_18 : decode cX8_agree 18 = .ok (.invokevirtual 231, 3) := by decide +kernel
theorem dX8_agree_21 : decode cX8_agree 21 = .ok (.checkcast 189, 3) := by decide +kernel
theorem dX8_agree_24 : decode cX8_agree 24 = .ok (.astore_n 2, 1) := by decide +kernel
theorem dX8_agree_25 : decode cX8_agree 25 = .ok (.aload_n 2, 1) := by decide +kernel
theorem dX8_agree_26 : decode cX8_agree 26 = .ok (.getfield 306, 3) := by decide +kernel
theorem dX8_agree_29 : decode cX8_agree 29 = .ok (.ifCond .eq 12, 3) := by decide +kernel
theorem dX8_agree_32 : decode cX8_agree 32 = .ok (.aload_n 2, 1) := by decide +kernel
theorem dX8_agree_33 : decode cX8_agree 33 = .ok (.invokevirtual 309, 3) := by decide +kernel
theorem dX8_agree_36 : decode cX8_agree 36 = .ok (.ifCond .ne 5, 3) := by decide +kernel
theorem dX8_agree_39 : decode cX8_agree 39 = .ok (.iconst 0, 1) := by decide +kernel
theorem dX8_agree_40 : decode cX8_agree 40 = .ok (.ireturn, 1) := by decide +kernel
theorem dX8_agree_41 : decode cX8_agree 41 = .ok (.iinc 1 1, 3) := by decide +kernel
theorem dX8_agree_44 : decode cX8_agree 44 = .ok (.goto (-42), 3) := by decide +kernel
theorem dX8_agree_47 : decode cX8_agree 47 = .ok (.iconst 1, 1) := by decide +kernel
theorem dX8_agree_48 : decode cX8_agree 48 = .ok (.ireturn, 1) := by decide +kernel
theorem dX8_requireSide_0 : decode cX8_requireSide 0 = .ok (.iload_n 0, 1) := by decide +kernel
theorem dX8_requireSide_1 : decode cX8_requireSide 1 = .ok (.ifCond .eq 19, 3) := by decide +kernel
theorem dX8_requireSide_4 : decode cX8_requireSide 4 = .ok (.iload_n 0, 1) := by decide +kernel
theorem dX8_requireSide_5 : decode cX8_requireSide 5 = .ok (.iconst 1, 1) := by decide +kernel
theorem dX8_requireSide_6 : decode cX8_requireSide 6 = .ok (.if_icmp .eq 14, 3) := by decide +kernel
theorem dX8_requireSide_9 : decode cX8_requireSide 9 = .ok (.new 130, 3) := by decide +kernel
theorem dX8_requireSide_12 : decode cX8_requireSide 12 = .ok (.dup, 1) := by decide +kernel
theorem dX8_requireSide_13 : decode cX8_requireSide 13 = .ok (.ldc_w 313, 3) := by decide +kernel
theorem dX8_requireSide_16 : decode cX8_requireSide 16 = .ok (.invokespecial 134, 3) := by decide +kernel
theorem dX8_requireSide_19 : decode cX8_requireSide 19 = .ok (.athrow, 1) := by decide +kernel
theorem dX8_requireSide_20 : decode cX8_requireSide 20 = .ok (.return_, 1) := by decide +kernel
theorem dX8_requireRange_0 : decode cX8_requireRange 0 = .ok (.iload_n 0, 1) := by decide +kernel
theorem dX8_requireRange_1 : decode cX8_requireRange 1 = .ok (.iload_n 1, 1) := by decide +kernel
theorem dX8_requireRange_2 : decode cX8_requireRange 2 = .ok (.if_icmp .lt 8, 3) := by decide +kernel
theorem dX8_requireRange_5 : decode cX8_requireRange 5 = .ok (.iload_n 0, 1) := by decide +kernel
theorem dX8_requireRange_6 : decode cX8_requireRange 6 = .ok (.iload_n 2, 1) := by decide +kernel
theorem dX8_requireRange_7 : decode cX8_requireRange 7 = .ok (.if_icmp .le 14, 3) := by decide +kernel
theorem dX8_requireRange_10 : decode cX8_requireRange 10 = .ok (.new 93, 3) := by decide +kernel
theorem dX8_requireRange_13 : decode cX8_requireRange 13 = .ok (.dup, 1) := by decide +kernel
theorem dX8_requireRange_14 : decode cX8_requireRange 14 = .ok (.ldc_w 315, 3) := by decide +kernel
theorem dX8_requireRange_17 : decode cX8_requireRange 17 = .ok (.invokespecial 97, 3) := by decide +kernel
theorem dX8_requireRange_20 : decode cX8_requireRange 20 = .ok (.athrow, 1) := by decide +kernel
theorem dX8_requireRange_21 : decode cX8_requireRange 21 = .ok (.return_, 1) := by decide +kernel
theorem dX8_requireMessage_0 : decode cX8_requireMessage 0 = .ok (.iload_n 1, 1) := by decide +kernel
theorem dX8_requireMessage_1 : decode cX8_requireMessage 1 = .ok (.invokestatic 90, 3) := by decide +kernel
theorem dX8_requireMessage_4 : decode cX8_requireMessage 4 = .ok (.aload_n 0, 1) := by decide +kernel
theorem dX8_requireMessage_5 : decode cX8_requireMessage 5 = .ok (.iload_n 1, 1) := by decide +kernel
theorem dX8_requireMessage_6 : decode cX8_requireMessage 6 = .ok (.invokevirtual 98, 3) := by decide +kernel
theorem dX8_requireMessage_9 : decode cX8_requireMessage 9 = .ok (.iload_n 2, 1) := by decide +kernel
theorem dX8_requireMessage_10 : decode cX8_requireMessage 10 = .ok (.invokevirtual 317, 3) := by decide +kernel
theorem dX8_requireMessage_13 : decode cX8_requireMessage 13 = .ok (.astore_n 3, 1) := by decide +kernel
theorem dX8_requireMessage_14 : decode cX8_requireMessage 14 = .ok (.aload_n 3, 1) := by decide +kernel
theorem dX8_requireMessage_15 : decode cX8_requireMessage 15 = .ok (.ifnonnull 14, 3) := by decide +kernel
theorem dX8_requireMessage_18 : decode cX8_requireMessage 18 = .ok (.new 130, 3) := by decide +kernel
theorem dX8_requireMessage_21 : decode cX8_requireMessage 21 = .ok (.dup, 1) := by decide +kernel
theorem dX8_requireMessage_22 : decode cX8_requireMessage 22 = .ok (.ldc_w 321, 3) := by decide +kernel
theorem dX8_requireMessage_25 : decode cX8_requireMessage 25 = .ok (.invokespecial 134, 3) := by decide +kernel
theorem dX8_requireMessage_28 : decode cX8_requireMessage 28 = .ok (.athrow, 1) := by decide +kernel
theorem dX8_requireMessage_29 : decode cX8_requireMessage 29 = .ok (.aload_n 3, 1) := by decide +kernel
theorem dX8_requireMessage_30 : decode cX8_requireMessage 30 = .ok (.areturn, 1) := by decide +kernel
theorem dX8_requireOrder_0 : decode cX8_requireOrder 0 = .ok (.aload_n 0, 1) := by decide +kernel
theorem dX8_requireOrder_1 : decode cX8_requireOrder 1 = .ok (.iload_n 1, 1) := by decide +kernel
theorem dX8_requireOrder_2 : decode cX8_requireOrder 2 = .ok (.invokevirtual 323, 3) := by decide +kernel
theorem dX8_requireOrder_5 : decode cX8_requireOrder 5 = .ok (.astore_n 2, 1) := by decide +kernel
theorem dX8_requireOrder_6 : decode cX8_requireOrder 6 = .ok (.aload_n 2, 1) := by decide +kernel
theorem dX8_requireOrder_7 : decode cX8_requireOrder 7 = .ok (.ifnonnull 14, 3) := by decide +kernel
theorem dX8_requireOrder_10 : decode cX8_requireOrder 10 = .ok (.new 130, 3) := by decide +kernel
theorem dX8_requireOrder_13 : decode cX8_requireOrder 13 = .ok (.dup, 1) := by decide +kernel
theorem dX8_requireOrder_14 : decode cX8_requireOrder 14 = .ok (.ldc_w 326, 3) := by decide +kernel
theorem dX8_requireOrder_17 : decode cX8_requireOrder 17 = .ok (.invokespecial 134, 3) := by decide +kernel
theorem dX8_requireOrder_20 : decode cX8_requireOrder 20 = .ok (.athrow, 1) := by decide +kernel
theorem dX8_requireOrder_21 : decode cX8_requireOrder 21 = .ok (.aload_n 2, 1) := by decide +kernel
theorem dX8_requireOrder_22 : decode cX8_requireOrder 22 = .ok (.areturn, 1) := by decide +kernel
theorem dX8_requireAskable_0 : decode cX8_requireAskable 0 = .ok (.aload_n 0, 1) := by decide +kernel
theorem dX8_requireAskable_1 : decode cX8_requireAskable 1 = .ok (.getfield 10, 3) := by decide +kernel
theorem dX8_requireAskable_4 : decode cX8_requireAskable 4 = .ok (.getfield 150, 3) := by decide +kernel
theorem dX8_requireAskable_7 : decode cX8_requireAskable 7 = .ok (.ifCond .eq 19, 3) := by decide +kernel
theorem dX8_requireAskable_10 : decode cX8_requireAskable 10 = .ok (.aload_n 1, 1) := by decide +kernel
theorem dX8_requireAskable_11 : decode cX8_requireAskable 11 = .ok (.invokevirtual 209, 3) := by decide +kernel
theorem dX8_requireAskable_14 : decode cX8_requireAskable 14 = .ok (.iconst 2, 1) := by decide +kernel
theorem dX8_requireAskable_15 : decode cX8_requireAskable 15 = .ok (.if_icmp .eq 11, 3) := by decide +kernel
theorem dX8_requireAskable_18 : decode cX8_requireAskable 18 = .ok (.aload_n 1, 1) := by decide +kernel
theorem dX8_requireAskable_19 : decode cX8_requireAskable 19 = .ok (.getfield 206, 3) := by decide +kernel
theorem dX8_requireAskable_22 : decode cX8_requireAskable 22 = .ok (.iconst 5, 1) := by decide +kernel
theorem dX8_requireAskable_23 : decode cX8_requireAskable 23 = .ok (.if_icmp .lt 14, 3) := by decide +kernel
theorem dX8_requireAskable_26 : decode cX8_requireAskable 26 = .ok (.new 51, 3) := by decide +kernel
theorem dX8_requireAskable_29 : decode cX8_requireAskable 29 = .ok (.dup, 1) := by decide +kernel
theorem dX8_requireAskable_30 : decode cX8_requireAskable 30 = .ok (.ldc_w 328, 3) := by decide +kernel
theorem dX8_requireAskable_33 : decode cX8_requireAskable 33 = .ok (.invokespecial 55, 3) := by decide +kernel
theorem dX8_requireAskable_36 : decode cX8_requireAskable 36 = .ok (.athrow, 1) := by decide +kernel
theorem dX8_requireAskable_37 : decode cX8_requireAskable 37 = .ok (.return_, 1) := by decide +kernel
theorem dX8_requireQuote_0 : decode cX8_requireQuote 0 = .ok (.aload_n 0, 1) := by decide +kernel
theorem dX8_requireQuote_1 : decode cX8_requireQuote 1 = .ok (.iload_n 2, 1) := by decide +kernel
theorem dX8_requireQuote_2 : decode cX8_requireQuote 2 = .ok (.invokevirtual 330, 3) := by decide +kernel
theorem dX8_requireQuote_5 : decode cX8_requireQuote 5 = .ok (.astore_n 3, 1) := by decide +kernel
theorem dX8_requireQuote_6 : decode cX8_requireQuote 6 = .ok (.iload_n 1, 1) := by decide +kernel
theorem dX8_requireQuote_7 : decode cX8_requireQuote 7 = .ok (.ifCond .lt 9, 3) := by decide +kernel
theorem dX8_requireQuote_10 : decode cX8_requireQuote 10 = .ok (.iload_n 1, 1) := by decide +kernel
theorem dX8_requireQuote_11 : decode cX8_requireQuote 11 = .ok (.aload_n 3, 1) := by decide +kernel
theorem dX8_requireQuote_12 : decode cX8_requireQuote 12 = .ok (.arraylength, 1) := by decide +kernel
theorem dX8_requireQuote_13 : decode cX8_requireQuote 13 = .ok (.if_icmp .lt 14, 3) := by decide +kernel
theorem dX8_requireQuote_16 : decode cX8_requireQuote 16 = .ok (.new 130, 3) := by decide +kernel
theorem dX8_requireQuote_19 : decode cX8_requireQuote 19 = .ok (.dup, 1) := by decide +kernel
theorem dX8_requireQuote_20 : decode cX8_requireQuote 20 = .ok (.ldc_w 334, 3) := by decide +kernel
theorem dX8_requireQuote_23 : decode cX8_requireQuote 23 = .ok (.invokespecial 134, 3) := by decide +kernel
theorem dX8_requireQuote_26 : decode cX8_requireQuote 26 = .ok (.athrow, 1) := by decide +kernel
theorem dX8_requireQuote_27 : decode cX8_requireQuote 27 = .ok (.aload_n 3, 1) := by decide +kernel
theorem dX8_requireQuote_28 : decode cX8_requireQuote 28 = .ok (.iload_n 1, 1) := by decide +kernel
theorem dX8_requireQuote_29 : decode cX8_requireQuote 29 = .ok (.aaload, 1) := by decide +kernel
theorem dX8_requireQuote_30 : decode cX8_requireQuote 30 = .ok (.areturn, 1) := by decide +kernel
theorem dX8_requireExecution_0 : decode cX8_requireExecution 0 = .ok (.aload_n 0, 1) := by decide +kernel
theorem dX8_requireExecution_1 : decode cX8_requireExecution 1 = .ok (.iload_n 1, 1) := by decide +kernel
theorem dX8_requireExecution_2 : decode cX8_requireExecution 2 = .ok (.invokevirtual 336, 3) := by decide +kernel
theorem dX8_requireExecution_5 : decode cX8_requireExecution 5 = .ok (.astore_n 2, 1) := by decide +kernel
theorem dX8_requireExecution_6 : decode cX8_requireExecution 6 = .ok (.aload_n 2, 1) := by decide +kernel
theorem dX8_requireExecution_7 : decode cX8_requireExecution 7 = .ok (.ifnonnull 14, 3) := by decide +kernel
theorem dX8_requireExecution_10 : decode cX8_requireExecution 10 = .ok (.new 130, 3) := by decide +kernel
theorem dX8_requireExecution_13 : decode cX8_requireExecution 13 = .ok (.dup, 1) := by decide +kernel
theorem dX8_requireExecution_14 : decode cX8_requireExecution 14 = .ok (.ldc_w 339, 3) := by decide +kernel
theorem dX8_requireExecution_17 : decode cX8_requireExecution 17 = .ok (.invokespecial 134, 3) := by decide +kernel
theorem dX8_requireExecution_20 : decode cX8_requireExecution 20 = .ok (.athrow, 1) := by decide +kernel
theorem dX8_requireExecution_21 : decode cX8_requireExecution 21 = .ok (.aload_n 2, 1) := by decide +kernel
theorem dX8_requireExecution_22 : decode cX8_requireExecution 22 = .ok (.areturn, 1) := by decide +kernel
theorem dX8_requireUnbusted_0 : decode cX8_requireUnbusted 0 = .ok (.aload_n 0, 1) := by decide +kernel
theorem dX8_requireUnbusted_1 : decode cX8_requireUnbusted 1 = .ok (.getfield 246, 3) := by decide +kernel
theorem dX8_requireUnbusted_4 : decode cX8_requireUnbusted 4 = .ok (.ifCond .eq 14, 3) := by decide +kernel
theorem dX8_requireUnbusted_7 : decode cX8_requireUnbusted 7 = .ok (.new 51, 3) := by decide +kernel
theorem dX8_requireUnbusted_10 : decode cX8_requireUnbusted 10 = .ok (.dup, 1) := by decide +kernel
theorem dX8_requireUnbusted_11 : decode cX8_requireUnbusted 11 = .ok (.ldc_w 341, 3) := by decide +kernel
theorem dX8_requireUnbusted_14 : decode cX8_requireUnbusted 14 = .ok (.invokespecial 55, 3) := by decide +kernel
theorem dX8_requireUnbusted_17 : decode cX8_requireUnbusted 17 = .ok (.athrow, 1) := by decide +kernel
theorem dX8_requireUnbusted_18 : decode cX8_requireUnbusted 18 = .ok (.return_, 1) := by decide +kernel
theorem dX8_party_0 : decode cX8_party 0 = .ok (.iload_n 1, 1) := by decide +kernel
theorem dX8_party_1 : decode cX8_party 1 = .ok (.iconst 1, 1) := by decide +kernel
theorem dX8_party_2 : decode cX8_party 2 = .ok (.if_icmp .ne 10, 3) := by decide +kernel
theorem dX8_party_5 : decode cX8_party 5 = .ok (.aload_n 0, 1) := by decide +kernel
theorem dX8_party_6 : decode cX8_party 6 = .ok (.getfield 16, 3) := by decide +kernel
theorem dX8_party_9 : decode cX8_party 9 = .ok (.goto 7, 3) := by decide +kernel
theorem dX8_party_12 : decode cX8_party 12 = .ok (.aload_n 0, 1) := by decide +kernel
theorem dX8_party_13 : decode cX8_party 13 = .ok (.getfield 10, 3) := by decide +kernel
theorem dX8_party_16 : decode cX8_party 16 = .ok (.areturn, 1) := by decide +kernel
theorem dX8_otherSide_0 : decode cX8_otherSide 0 = .ok (.iload_n 0, 1) := by decide +kernel
theorem dX8_otherSide_1 : decode cX8_otherSide 1 = .ok (.iconst 1, 1) := by decide +kernel
theorem dX8_otherSide_2 : decode cX8_otherSide 2 = .ok (.if_icmp .ne 7, 3) := by decide +kernel
theorem dX8_otherSide_5 : decode cX8_otherSide 5 = .ok (.iconst 0, 1) := by decide +kernel
theorem dX8_otherSide_6 : decode cX8_otherSide 6 = .ok (.goto 4, 3) := by decide +kernel
theorem dX8_otherSide_9 : decode cX8_otherSide 9 = .ok (.iconst 1, 1) := by decide +kernel
theorem dX8_otherSide_10 : decode cX8_otherSide 10 = .ok (.ireturn, 1) := by decide +kernel
theorem dX8_findOrder_0 : decode cX8_findOrder 0 = .ok (.iload_n 1, 1) := by decide +kernel
theorem dX8_findOrder_1 : decode cX8_findOrder 1 = .ok (.ifCond .lt 28, 3) := by decide +kernel
theorem dX8_findOrder_4 : decode cX8_findOrder 4 = .ok (.iload_n 1, 1) := by decide +kernel
theorem dX8_findOrder_5 : decode cX8_findOrder 5 = .ok (.aload_n 0, 1) := by decide +kernel
theorem dX8_findOrder_6 : decode cX8_findOrder 6 = .ok (.getfield 22, 3) := by decide +kernel
theorem dX8_findOrder_9 : decode cX8_findOrder 9 = .ok (.invokevirtual 143, 3) := by decide +kernel
theorem dX8_findOrder_12 : decode cX8_findOrder 12 = .ok (.if_icmp .ge 17, 3) := by decide +kernel
theorem dX8_findOrder_15 : decode cX8_findOrder 15 = .ok (.aload_n 0, 1) := by decide +kernel
theorem dX8_findOrder_16 : decode cX8_findOrder 16 = .ok (.getfield 22, 3) := by decide +kernel
theorem dX8_findOrder_19 : decode cX8_findOrder 19 = .ok (.iload_n 1, 1) := by decide +kernel
theorem dX8_findOrder_20 : decode cX8_findOrder 20 = .ok (.invokevirtual 231, 3) := by decide +kernel
theorem dX8_findOrder_23 : decode cX8_findOrder 23 = .ok (.checkcast 189, 3) := by decide +kernel
theorem dX8_findOrder_26 : decode cX8_findOrder 26 = .ok (.goto 4, 3) := by decide +kernel
theorem dX8_findOrder_29 : decode cX8_findOrder 29 = .ok (.aconst_null, 1) := by decide +kernel
theorem dX8_findOrder_30 : decode cX8_findOrder 30 = .ok (.areturn, 1) := by decide +kernel
theorem dX8_findExecution_0 : decode cX8_findExecution 0 = .ok (.iload_n 1, 1) := by decide +kernel
theorem dX8_findExecution_1 : decode cX8_findExecution 1 = .ok (.ifCond .lt 28, 3) := by decide +kernel
theorem dX8_findExecution_4 : decode cX8_findExecution 4 = .ok (.iload_n 1, 1) := by decide +kernel
theorem dX8_findExecution_5 : decode cX8_findExecution 5 = .ok (.aload_n 0, 1) := by decide +kernel
theorem dX8_findExecution_6 : decode cX8_findExecution 6 = .ok (.getfield 32, 3) := by decide +kernel
theorem dX8_findExecution_9 : decode cX8_findExecution 9 = .ok (.invokevirtual 143, 3) := by decide +kernel
theorem dX8_findExecution_12 : decode cX8_findExecution 12 = .ok (.if_icmp .ge 17, 3) := by decide +kernel
theorem dX8_findExecution_15 : decode cX8_findExecution 15 = .ok (.aload_n 0, 1) := by decide +kernel
theorem dX8_findExecution_16 : decode cX8_findExecution 16 = .ok (.getfield 32, 3) := by decide +kernel
theorem dX8_findExecution_19 : decode cX8_findExecution 19 = .ok (.iload_n 1, 1) := by decide +kernel
theorem dX8_findExecution_20 : decode cX8_findExecution 20 = .ok (.invokevirtual 231, 3) := by decide +kernel
theorem dX8_findExecution_23 : decode cX8_findExecution 23 = .ok (.checkcast 247, 3) := by decide +kernel
theorem dX8_findExecution_26 : decode cX8_findExecution 26 = .ok (.goto 4, 3) := by decide +kernel
theorem dX8_findExecution_29 : decode cX8_findExecution 29 = .ok (.aconst_null, 1) := by decide +kernel
theorem dX8_findExecution_30 : decode cX8_findExecution 30 = .ok (.areturn, 1) := by decide +kernel
theorem dX8_quotesFor_0 : decode cX8_quotesFor 0 = .ok (.iload_n 1, 1) := by decide +kernel
theorem dX8_quotesFor_1 : decode cX8_quotesFor 1 = .ok (.ifCond .eq 10, 3) := by decide +kernel
theorem dX8_quotesFor_4 : decode cX8_quotesFor 4 = .ok (.aload_n 0, 1) := by decide +kernel
theorem dX8_quotesFor_5 : decode cX8_quotesFor 5 = .ok (.getfield 41, 3) := by decide +kernel
theorem dX8_quotesFor_8 : decode cX8_quotesFor 8 = .ok (.goto 7, 3) := by decide +kernel
theorem dX8_quotesFor_11 : decode cX8_quotesFor 11 = .ok (.aload_n 0, 1) := by decide +kernel
theorem dX8_quotesFor_12 : decode cX8_quotesFor 12 = .ok (.getfield 37, 3) := by decide +kernel
theorem dX8_quotesFor_15 : decode cX8_quotesFor 15 = .ok (.areturn, 1) := by decide +kernel
theorem dX8_byRank_0 : decode cX8_byRank 0 = .ok (.iload_n 1, 1) := by decide +kernel
theorem dX8_byRank_1 : decode cX8_byRank 1 = .ok (.ifCond .eq 10, 3) := by decide +kernel
theorem dX8_byRank_4 : decode cX8_byRank 4 = .ok (.aload_n 0, 1) := by decide +kernel
theorem dX8_byRank_5 : decode cX8_byRank 5 = .ok (.getfield 29, 3) := by decide +kernel
theorem dX8_byRank_8 : decode cX8_byRank 8 = .ok (.goto 7, 3) := by decide +kernel
theorem dX8_byRank_11 : decode cX8_byRank 11 = .ok (.aload_n 0, 1) := by decide +kernel
theorem dX8_byRank_12 : decode cX8_byRank 12 = .ok (.getfield 26, 3) := by decide +kernel
theorem dX8_byRank_15 : decode cX8_byRank 15 = .ok (.areturn, 1) := by decide +kernel
theorem dX8_hasExecutedAt_0 : decode cX8_hasExecutedAt 0 = .ok (.iconst 0, 1) := by decide +kernel
theorem dX8_hasExecutedAt_1 : decode cX8_hasExecutedAt 1 = .ok (.istore_n 3, 1) := by decide +kernel
theorem dX8_hasExecutedAt_2 : decode cX8_hasExecutedAt 2 = .ok (.iload_n 3, 1) := by decide +kernel
theorem dX8_hasExecutedAt_3 : decode cX8_hasExecutedAt 3 = .ok (.aload_n 0, 1) := by decide +kernel
theorem dX8_hasExecutedAt_4 : decode cX8_hasExecutedAt 4 = .ok (.getfield 32, 3) := by decide +kernel
theorem dX8_hasExecutedAt_7 : decode cX8_hasExecutedAt 7 = .ok (.invokevirtual 143, 3) := by decide +kernel
theorem dX8_hasExecutedAt_10 : decode cX8_hasExecutedAt 10 = .ok (.if_icmp .ge 42, 3) := by decide +kernel
theorem dX8_hasExecutedAt_13 : decode cX8_hasExecutedAt 13 = .ok (.aload_n 0, 1) := by decide +kernel
theorem dX8_hasExecutedAt_14 : decode cX8_hasExecutedAt 14 = .ok (.getfield 32, 3) := by decide +kernel
theorem dX8_hasExecutedAt_17 : decode cX8_hasExecutedAt 17 = .ok (.iload_n 3, 1) := by decide +kernel
theorem dX8_hasExecutedAt_18 : decode cX8_hasExecutedAt 18 = .ok (.invokevirtual 231, 3) := by decide +kernel
theorem dX8_hasExecutedAt_21 : decode cX8_hasExecutedAt 21 = .ok (.checkcast 247, 3) := by decide +kernel
theorem dX8_hasExecutedAt_24 : decode cX8_hasExecutedAt 24 = .ok (.astore 4, 2) := by decide +kernel
theorem dX8_hasExecutedAt_26 : decode cX8_hasExecutedAt 26 = .ok (.aload 4, 2) := by decide +kernel
theorem dX8_hasExecutedAt_28 : decode cX8_hasExecutedAt 28 = .ok (.getfield 251, 3) := by decide +kernel
theorem dX8_hasExecutedAt_31 : decode cX8_hasExecutedAt 31 = .ok (.aload_n 1, 1) := by decide +kernel
theorem dX8_hasExecutedAt_32 : decode cX8_hasExecutedAt 32 = .ok (.if_acmp .ne 14, 3) := by decide +kernel
theorem dX8_hasExecutedAt_35 : decode cX8_hasExecutedAt 35 = .ok (.aload 4, 2) := by decide +kernel
theorem dX8_hasExecutedAt_37 : decode cX8_hasExecutedAt 37 = .ok (.getfield 343, 3) := by decide +kernel
theorem dX8_hasExecutedAt_40 : decode cX8_hasExecutedAt 40 = .ok (.iload_n 2, 1) := by decide +kernel
theorem dX8_hasExecutedAt_41 : decode cX8_hasExecutedAt 41 = .ok (.if_icmp .ne 5, 3) := by decide +kernel
theorem dX8_hasExecutedAt_44 : decode cX8_hasExecutedAt 44 = .ok (.iconst 1, 1) := by decide +kernel
theorem dX8_hasExecutedAt_45 : decode cX8_hasExecutedAt 45 = .ok (.ireturn, 1) := by decide +kernel
theorem dX8_hasExecutedAt_46 : decode cX8_hasExecutedAt 46 = .ok (.iinc 3 1, 3) := by decide +kernel
theorem dX8_hasExecutedAt_49 : decode cX8_hasExecutedAt 49 = .ok (.goto (-47), 3) := by decide +kernel
theorem dX8_hasExecutedAt_52 : decode cX8_hasExecutedAt 52 = .ok (.iconst 0, 1) := by decide +kernel
theorem dX8_hasExecutedAt_53 : decode cX8_hasExecutedAt 53 = .ok (.ireturn, 1) := by decide +kernel
theorem dX8_send_0 : decode cX8_send 0 = .ok (.aload_n 0, 1) := by decide +kernel
theorem dX8_send_1 : decode cX8_send 1 = .ok (.iload_n 1, 1) := by decide +kernel
theorem dX8_send_2 : decode cX8_send 2 = .ok (.invokevirtual 98, 3) := by decide +kernel
theorem dX8_send_5 : decode cX8_send 5 = .ok (.astore 4, 2) := by decide +kernel
theorem dX8_send_7 : decode cX8_send 7 = .ok (.aload 4, 2) := by decide +kernel
theorem dX8_send_9 : decode cX8_send 9 = .ok (.getfield 140, 3) := by decide +kernel
theorem dX8_send_12 : decode cX8_send 12 = .ok (.invokevirtual 143, 3) := by decide +kernel
theorem dX8_send_15 : decode cX8_send 15 = .ok (.iconst 1, 1) := by decide +kernel
theorem dX8_send_16 : decode cX8_send 16 = .ok (.iadd, 1) := by decide +kernel
theorem dX8_send_17 : decode cX8_send 17 = .ok (.istore 5, 2) := by decide +kernel
theorem dX8_send_19 : decode cX8_send 19 = .ok (.iload 5, 2) := by decide +kernel
theorem dX8_send_21 : decode cX8_send 21 = .ok (.ldc_w 346, 3) := by decide +kernel
theorem dX8_send_24 : decode cX8_send 24 = .ok (.if_icmp .le 4, 3) := by decide +kernel
theorem dX8_send_27 : decode cX8_send 27 = .ok (.return_, 1) := by decide +kernel
theorem dX8_send_28 : decode cX8_send 28 = .ok (.aload 4, 2) := by decide +kernel
theorem dX8_send_30 : decode cX8_send 30 = .ok (.getfield 140, 3) := by decide +kernel
theorem dX8_send_33 : decode cX8_send 33 = .ok (.new 168, 3) := by decide +kernel
theorem dX8_send_36 : decode cX8_send 36 = .ok (.dup, 1) := by decide +kernel
theorem dX8_send_37 : decode cX8_send 37 = .ok (.iload_n 2, 1) := by decide +kernel
theorem dX8_send_38 : decode cX8_send 38 = .ok (.iload 5, 2) := by decide +kernel
theorem dX8_send_40 : decode cX8_send 40 = .ok (.aload_n 0, 1) := by decide +kernel
theorem dX8_send_41 : decode cX8_send 41 = .ok (.getfield 61, 3) := by decide +kernel
theorem dX8_send_44 : decode cX8_send 44 = .ok (.aload_n 3, 1) := by decide +kernel
theorem dX8_send_45 : decode cX8_send 45 = .ok (.invokespecial 347, 3) := by decide +kernel
theorem dX8_send_48 : decode cX8_send 48 = .ok (.invokevirtual 194, 3) := by decide +kernel
theorem dX8_send_51 : decode cX8_send 51 = .ok (.pop, 1) := by decide +kernel
theorem dX8_send_52 : decode cX8_send 52 = .ok (.aload 4, 2) := by decide +kernel
theorem dX8_send_54 : decode cX8_send 54 = .ok (.aload_n 0, 1) := by decide +kernel
theorem dX8_send_55 : decode cX8_send 55 = .ok (.getfield 61, 3) := by decide +kernel
theorem dX8_send_58 : decode cX8_send 58 = .ok (.putfield 350, 3) := by decide +kernel
theorem dX8_send_61 : decode cX8_send 61 = .ok (.aload_n 0, 1) := by decide +kernel
theorem dX8_send_62 : decode cX8_send 62 = .ok (.getfield 47, 3) := by decide +kernel
theorem dX8_send_65 : decode cX8_send 65 = .ok (.ifCond .eq 20, 3) := by decide +kernel
theorem dX8_send_68 : decode cX8_send 68 = .ok (.aload_n 0, 1) := by decide +kernel
theorem dX8_send_69 : decode cX8_send 69 = .ok (.iload_n 1, 1) := by decide +kernel
theorem dX8_send_70 : decode cX8_send 70 = .ok (.invokestatic 353, 3) := by decide +kernel
theorem dX8_send_73 : decode cX8_send 73 = .ok (.invokevirtual 98, 3) := by decide +kernel
theorem dX8_send_76 : decode cX8_send 76 = .ok (.getfield 78, 3) := by decide +kernel
theorem dX8_send_79 : decode cX8_send 79 = .ok (.iload 5, 2) := by decide +kernel
theorem dX8_send_81 : decode cX8_send 81 = .ok (.iconst 1, 1) := by decide +kernel
theorem dX8_send_82 : decode cX8_send 82 = .ok (.invokevirtual 356, 3) := by decide +kernel
theorem dX8_send_85 : decode cX8_send 85 = .ok (.return_, 1) := by decide +kernel
theorem dX8_goDown_0 : decode cX8_goDown 0 = .ok (.aload_n 0, 1) := by decide +kernel
theorem dX8_goDown_1 : decode cX8_goDown 1 = .ok (.iconst 0, 1) := by decide +kernel
theorem dX8_goDown_2 : decode cX8_goDown 2 = .ok (.putfield 47, 3) := by decide +kernel
theorem dX8_goDown_5 : decode cX8_goDown 5 = .ok (.aload_n 0, 1) := by decide +kernel
theorem dX8_goDown_6 : decode cX8_goDown 6 = .ok (.getfield 10, 3) := by decide +kernel
theorem dX8_goDown_9 : decode cX8_goDown 9 = .ok (.invokevirtual 359, 3) := by decide +kernel
theorem dX8_goDown_12 : decode cX8_goDown 12 = .ok (.aload_n 0, 1) := by decide +kernel
theorem dX8_goDown_13 : decode cX8_goDown 13 = .ok (.getfield 16, 3) := by decide +kernel
theorem dX8_goDown_16 : decode cX8_goDown 16 = .ok (.invokevirtual 359, 3) := by decide +kernel
theorem dX8_goDown_19 : decode cX8_goDown 19 = .ok (.return_, 1) := by decide +kernel
theorem dX8_tick_0 : decode cX8_tick 0 = .ok (.aload_n 0, 1) := by decide +kernel
theorem dX8_tick_1 : decode cX8_tick 1 = .ok (.iload_n 1, 1) := by decide +kernel
theorem dX8_tick_2 : decode cX8_tick 2 = .ok (.invokevirtual 98, 3) := by decide +kernel
theorem dX8_tick_5 : decode cX8_tick 5 = .ok (.astore_n 2, 1) := by decide +kernel
theorem dX8_tick_6 : decode cX8_tick 6 = .ok (.aload_n 2, 1) := by decide +kernel
theorem dX8_tick_7 : decode cX8_tick 7 = .ok (.getfield 150, 3) := by decide +kernel
theorem dX8_tick_10 : decode cX8_tick 10 = .ok (.ifCond .ne 4, 3) := by decide +kernel
theorem dX8_tick_13 : decode cX8_tick 13 = .ok (.return_, 1) := by decide +kernel
theorem dX8_tick_14 : decode cX8_tick 14 = .ok (.aload_n 0, 1) := by decide +kernel
theorem dX8_tick_15 : decode cX8_tick 15 = .ok (.getfield 61, 3) := by decide +kernel
theorem dX8_tick_18 : decode cX8_tick 18 = .ok (.aload_n 2, 1) := by decide +kernel
theorem dX8_tick_19 : decode cX8_tick 19 = .ok (.getfield 350, 3) := by decide +kernel
theorem dX8_tick_22 : decode cX8_tick 22 = .ok (.isub, 1) := by decide +kernel
theorem dX8_tick_23 : decode cX8_tick 23 = .ok (.bipush 10, 2) := by decide +kernel
theorem dX8_tick_25 : decode cX8_tick 25 = .ok (.if_icmp .lt 12, 3) := by decide +kernel
theorem dX8_tick_28 : decode cX8_tick 28 = .ok (.aload_n 0, 1) := by decide +kernel
theorem dX8_tick_29 : decode cX8_tick 29 = .ok (.iload_n 1, 1) := by decide +kernel
theorem dX8_tick_30 : decode cX8_tick 30 = .ok (.iconst 1, 1) := by decide +kernel
theorem dX8_tick_31 : decode cX8_tick 31 = .ok (.getstatic 68, 3) := by decide +kernel
theorem dX8_tick_34 : decode cX8_tick 34 = .ok (.invokevirtual 72, 3) := by decide +kernel
theorem dX8_tick_37 : decode cX8_tick 37 = .ok (.aload_n 0, 1) := by decide +kernel
theorem dX8_tick_38 : decode cX8_tick 38 = .ok (.getfield 61, 3) := by decide +kernel
theorem dX8_tick_41 : decode cX8_tick 41 = .ok (.aload_n 2, 1) := by decide +kernel
theorem dX8_tick_42 : decode cX8_tick 42 = .ok (.getfield 65, 3) := by decide +kernel
theorem dX8_tick_45 : decode cX8_tick 45 = .ok (.isub, 1) := by decide +kernel
theorem dX8_tick_46 : decode cX8_tick 46 = .ok (.istore_n 3, 1) := by decide +kernel
theorem dX8_tick_47 : decode cX8_tick 47 = .ok (.iload_n 3, 1) := by decide +kernel
theorem dX8_tick_48 : decode cX8_tick 48 = .ok (.bipush 15, 2) := by decide +kernel
theorem dX8_tick_50 : decode cX8_tick 50 = .ok (.if_icmp .ne 15, 3) := by decide +kernel
theorem dX8_tick_53 : decode cX8_tick 53 = .ok (.aload_n 0, 1) := by decide +kernel
theorem dX8_tick_54 : decode cX8_tick 54 = .ok (.iload_n 1, 1) := by decide +kernel
theorem dX8_tick_55 : decode cX8_tick 55 = .ok (.iconst 2, 1) := by decide +kernel
theorem dX8_tick_56 : decode cX8_tick 56 = .ok (.getstatic 68, 3) := by decide +kernel
theorem dX8_tick_59 : decode cX8_tick 59 = .ok (.invokevirtual 72, 3) := by decide +kernel
theorem dX8_tick_62 : decode cX8_tick 62 = .ok (.goto 13, 3) := by decide +kernel
theorem dX8_tick_65 : decode cX8_tick 65 = .ok (.iload_n 3, 1) := by decide +kernel
theorem dX8_tick_66 : decode cX8_tick 66 = .ok (.bipush 25, 2) := by decide +kernel
theorem dX8_tick_68 : decode cX8_tick 68 = .ok (.if_icmp .lt 7, 3) := by decide +kernel
theorem dX8_tick_71 : decode cX8_tick 71 = .ok (.aload_n 0, 1) := by decide +kernel
theorem dX8_tick_72 : decode cX8_tick 72 = .ok (.invokevirtual 87, 3) := by decide +kernel
theorem dX8_tick_75 : decode cX8_tick 75 = .ok (.return_, 1) := by decide +kernel
theorem dX8_receive_0 : decode cX8_receive 0 = .ok (.aload_n 0, 1) := by decide +kernel
theorem dX8_receive_1 : decode cX8_receive 1 = .ok (.iload_n 1, 1) := by decide +kernel
theorem dX8_receive_2 : decode cX8_receive 2 = .ok (.invokevirtual 98, 3) := by decide +kernel
theorem dX8_receive_5 : decode cX8_receive 5 = .ok (.astore 4, 2) := by decide +kernel
theorem dX8_receive_7 : decode cX8_receive 7 = .ok (.aload_n 0, 1) := by decide +kernel
theorem dX8_receive_8 : decode cX8_receive 8 = .ok (.iload_n 1, 1) := by decide +kernel
theorem dX8_receive_9 : decode cX8_receive 9 = .ok (.invokestatic 353, 3) := by decide +kernel
theorem dX8_receive_12 : decode cX8_receive 12 = .ok (.invokevirtual 98, 3) := by decide +kernel
theorem dX8_receive_15 : decode cX8_receive 15 = .ok (.iload_n 2, 1) := by decide +kernel
theorem dX8_receive_16 : decode cX8_receive 16 = .ok (.invokevirtual 317, 3) := by decide +kernel
theorem dX8_receive_19 : decode cX8_receive 19 = .ok (.astore 5, 2) := by decide +kernel
theorem dX8_receive_21 : decode cX8_receive 21 = .ok (.aload 5, 2) := by decide +kernel
theorem dX8_receive_23 : decode cX8_receive 23 = .ok (.ifnonnull 5, 3) := by decide +kernel
theorem dX8_receive_26 : decode cX8_receive 26 = .ok (.iconst 0, 1) := by decide +kernel
theorem dX8_receive_27 : decode cX8_receive 27 = .ok (.ireturn, 1) := by decide +kernel
theorem dX8_receive_28 : decode cX8_receive 28 = .ok (.iload_n 3, 1) := by decide +kernel
theorem dX8_receive_29 : decode cX8_receive 29 = .ok (.iconst 1, 1) := by decide +kernel
theorem dX8_receive_30 : decode cX8_receive 30 = .ok (.if_icmp .ne 11, 3) := by decide +kernel
theorem dX8_receive_33 : decode cX8_receive 33 = .ok (.aload 5, 2) := by decide +kernel
theorem dX8_receive_35 : decode cX8_receive 35 = .ok (.getfield 362, 3) := by decide +kernel
theorem dX8_receive_38 : decode cX8_receive 38 = .ok (.goto 4, 3) := by decide +kernel
theorem dX8_receive_41 : decode cX8_receive 41 = .ok (.iconst 4, 1) := by decide +kernel
theorem dX8_receive_42 : decode cX8_receive 42 = .ok (.istore 6, 2) := by decide +kernel
theorem dX8_receive_44 : decode cX8_receive 44 = .ok (.aload 4, 2) := by decide +kernel
theorem dX8_receive_46 : decode cX8_receive 46 = .ok (.getfield 150, 3) := by decide +kernel
theorem dX8_receive_49 : decode cX8_receive 49 = .ok (.ifCond .ne 10, 3) := by decide +kernel
theorem dX8_receive_52 : decode cX8_receive 52 = .ok (.iload 6, 2) := by decide +kernel
theorem dX8_receive_54 : decode cX8_receive 54 = .ok (.ifCond .eq 5, 3) := by decide +kernel
theorem dX8_receive_57 : decode cX8_receive 57 = .ok (.iconst 0, 1) := by decide +kernel
theorem dX8_receive_58 : decode cX8_receive 58 = .ok (.ireturn, 1) := by decide +kernel
theorem dX8_receive_59 : decode cX8_receive 59 = .ok (.aload 4, 2) := by decide +kernel
theorem dX8_receive_61 : decode cX8_receive 61 = .ok (.aload_n 0, 1) := by decide +kernel
theorem dX8_receive_62 : decode cX8_receive 62 = .ok (.getfield 61, 3) := by decide +kernel
theorem dX8_receive_65 : decode cX8_receive 65 = .ok (.putfield 65, 3) := by decide +kernel
theorem dX8_receive_68 : decode cX8_receive 68 = .ok (.iload 6, 2) := by decide +kernel
theorem dX8_receive_70 : decode cX8_receive 70 = .ok (.ifCond .ne 12, 3) := by decide +kernel
theorem dX8_receive_73 : decode cX8_receive 73 = .ok (.aload 4, 2) := by decide +kernel
theorem dX8_receive_75 : decode cX8_receive 75 = .ok (.iconst 1, 1) := by decide +kernel
theorem dX8_receive_76 : decode cX8_receive 76 = .ok (.putfield 150, 3) := by decide +kernel
theorem dX8_receive_79 : decode cX8_receive 79 = .ok (.goto 21, 3) := by decide +kernel
theorem dX8_receive_82 : decode cX8_receive 82 = .ok (.iload 6, 2) := by decide +kernel
theorem dX8_receive_84 : decode cX8_receive 84 = .ok (.iconst 3, 1) := by decide +kernel
theorem dX8_receive_85 : decode cX8_receive 85 = .ok (.if_icmp .ne 15, 3) := by decide +kernel
theorem dX8_receive_88 : decode cX8_receive 88 = .ok (.aload_n 0, 1) := by decide +kernel
theorem dX8_receive_89 : decode cX8_receive 89 = .ok (.iload_n 1, 1) := by decide +kernel
theorem dX8_receive_90 : decode cX8_receive 90 = .ok (.aload 5, 2) := by decide +kernel
theorem dX8_receive_92 : decode cX8_receive 92 = .ok (.bipush 7, 2) := by decide +kernel
theorem dX8_receive_94 : decode cX8_receive 94 = .ok (.invokevirtual 365, 3) := by decide +kernel
theorem dX8_receive_97 : decode cX8_receive 97 = .ok (.invokevirtual 368, 3) := by decide +kernel
theorem dX8_receive_100 : decode cX8_receive 100 = .ok (.iload_n 2, 1) := by decide +kernel
theorem dX8_receive_101 : decode cX8_receive 101 = .ok (.aload 4, 2) := by decide +kernel
theorem dX8_receive_103 : decode cX8_receive 103 = .ok (.getfield 153, 3) := by decide +kernel
theorem dX8_receive_106 : decode cX8_receive 106 = .ok (.if_icmp .le 18, 3) := by decide +kernel
theorem dX8_receive_109 : decode cX8_receive 109 = .ok (.aload 4, 2) := by decide +kernel
theorem dX8_receive_111 : decode cX8_receive 111 = .ok (.getfield 156, 3) := by decide +kernel
theorem dX8_receive_114 : decode cX8_receive 114 = .ok (.iload_n 2, 1) := by decide +kernel
theorem dX8_receive_115 : decode cX8_receive 115 = .ok (.iload_n 3, 1) := by decide +kernel
theorem dX8_receive_116 : decode cX8_receive 116 = .ok (.invokevirtual 371, 3) := by decide +kernel
theorem dX8_receive_119 : decode cX8_receive 119 = .ok (.aload_n 0, 1) := by decide +kernel
theorem dX8_receive_120 : decode cX8_receive 120 = .ok (.iload_n 1, 1) := by decide +kernel
theorem dX8_receive_121 : decode cX8_receive 121 = .ok (.invokevirtual 374, 3) := by decide +kernel
theorem dX8_receive_124 : decode cX8_receive 124 = .ok (.iload_n 2, 1) := by decide +kernel
theorem dX8_receive_125 : decode cX8_receive 125 = .ok (.aload 4, 2) := by decide +kernel
theorem dX8_receive_127 : decode cX8_receive 127 = .ok (.getfield 153, 3) := by decide +kernel
theorem dX8_receive_130 : decode cX8_receive 130 = .ok (.if_icmp .ne 7, 3) := by decide +kernel
theorem dX8_receive_133 : decode cX8_receive 133 = .ok (.iconst 1, 1) := by decide +kernel
theorem dX8_receive_134 : decode cX8_receive 134 = .ok (.goto 4, 3) := by decide +kernel
theorem dX8_receive_137 : decode cX8_receive 137 = .ok (.iconst 0, 1) := by decide +kernel
theorem dX8_receive_138 : decode cX8_receive 138 = .ok (.ireturn, 1) := by decide +kernel
theorem dX8_askForExpected_0 : decode cX8_askForExpected 0 = .ok (.aload_n 0, 1) := by decide +kernel
theorem dX8_askForExpected_1 : decode cX8_askForExpected 1 = .ok (.iload_n 1, 1) := by decide +kernel
theorem dX8_askForExpected_2 : decode cX8_askForExpected 2 = .ok (.invokevirtual 98, 3) := by decide +kernel
theorem dX8_askForExpected_5 : decode cX8_askForExpected 5 = .ok (.astore_n 2, 1) := by decide +kernel
theorem dX8_askForExpected_6 : decode cX8_askForExpected 6 = .ok (.aload_n 2, 1) := by decide +kernel
theorem dX8_askForExpected_7 : decode cX8_askForExpected 7 = .ok (.getfield 153, 3) := by decide +kernel
theorem dX8_askForExpected_10 : decode cX8_askForExpected 10 = .ok (.istore_n 3, 1) := by decide +kernel
theorem dX8_askForExpected_11 : decode cX8_askForExpected 11 = .ok (.aload_n 2, 1) := by decide +kernel
theorem dX8_askForExpected_12 : decode cX8_askForExpected 12 = .ok (.getfield 377, 3) := by decide +kernel
theorem dX8_askForExpected_15 : decode cX8_askForExpected 15 = .ok (.iload_n 3, 1) := by decide +kernel
theorem dX8_askForExpected_16 : decode cX8_askForExpected 16 = .ok (.if_icmp .ne 17, 3) := by decide +kernel
theorem dX8_askForExpected_19 : decode cX8_askForExpected 19 = .ok (.aload_n 0, 1) := by decide +kernel
theorem dX8_askForExpected_20 : decode cX8_askForExpected 20 = .ok (.getfield 61, 3) := by decide +kernel
theorem dX8_askForExpected_23 : decode cX8_askForExpected 23 = .ok (.aload_n 2, 1) := by decide +kernel
theorem dX8_askForExpected_24 : decode cX8_askForExpected 24 = .ok (.getfield 380, 3) := by decide +kernel
theorem dX8_askForExpected_27 : decode cX8_askForExpected 27 = .ok (.isub, 1) := by decide +kernel
theorem dX8_askForExpected_28 : decode cX8_askForExpected 28 = .ok (.iconst 5, 1) := by decide +kernel
theorem dX8_askForExpected_29 : decode cX8_askForExpected 29 = .ok (.if_icmp .ge 4, 3) := by decide +kernel
theorem dX8_askForExpected_32 : decode cX8_askForExpected 32 = .ok (.return_, 1) := by decide +kernel
theorem dX8_askForExpected_33 : decode cX8_askForExpected 33 = .ok (.aload_n 2, 1) := by decide +kernel
theorem dX8_askForExpected_34 : decode cX8_askForExpected 34 = .ok (.iload_n 3, 1) := by decide +kernel
theorem dX8_askForExpected_35 : decode cX8_askForExpected 35 = .ok (.putfield 377, 3) := by decide +kernel
theorem dX8_askForExpected_38 : decode cX8_askForExpected 38 = .ok (.aload_n 2, 1) := by decide +kernel
theorem dX8_askForExpected_39 : decode cX8_askForExpected 39 = .ok (.aload_n 0, 1) := by decide +kernel
theorem dX8_askForExpected_40 : decode cX8_askForExpected 40 = .ok (.getfield 61, 3) := by decide +kernel
theorem dX8_askForExpected_43 : decode cX8_askForExpected 43 = .ok (.putfield 380, 3) := by decide +kernel
theorem dX8_askForExpected_46 : decode cX8_askForExpected 46 = .ok (.aload_n 0, 1) := by decide +kernel
theorem dX8_askForExpected_47 : decode cX8_askForExpected 47 = .ok (.iload_n 1, 1) := by decide +kernel
theorem dX8_askForExpected_48 : decode cX8_askForExpected 48 = .ok (.iconst 3, 1) := by decide +kernel
theorem dX8_askForExpected_49 : decode cX8_askForExpected 49 = .ok (.iconst 2, 1) := by decide +kernel
theorem dX8_askForExpected_50 : decode cX8_askForExpected 50 = .ok (.newarray .int, 2) := by decide +kernel
theorem dX8_askForExpected_52 : decode cX8_askForExpected 52 = .ok (.dup, 1) := by decide +kernel
theorem dX8_askForExpected_53 : decode cX8_askForExpected 53 = .ok (.iconst 0, 1) := by decide +kernel
theorem dX8_askForExpected_54 : decode cX8_askForExpected 54 = .ok (.bipush 7, 2) := by decide +kernel
theorem dX8_askForExpected_56 : decode cX8_askForExpected 56 = .ok (.iastore, 1) := by decide +kernel
theorem dX8_askForExpected_57 : decode cX8_askForExpected 57 = .ok (.dup, 1) := by decide +kernel
theorem dX8_askForExpected_58 : decode cX8_askForExpected 58 = .ok (.iconst 1, 1) := by decide +kernel
theorem dX8_askForExpected_59 : decode cX8_askForExpected 59 = .ok (.iload_n 3, 1) := by decide +kernel
theorem dX8_askForExpected_60 : decode cX8_askForExpected 60 = .ok (.iastore, 1) := by decide +kernel
theorem dX8_askForExpected_61 : decode cX8_askForExpected 61 = .ok (.invokevirtual 72, 3) := by decide +kernel
theorem dX8_askForExpected_64 : decode cX8_askForExpected 64 = .ok (.return_, 1) := by decide +kernel
theorem dX8_answer_0 : decode cX8_answer 0 = .ok (.aload_n 0, 1) := by decide +kernel
theorem dX8_answer_1 : decode cX8_answer 1 = .ok (.iload_n 1, 1) := by decide +kernel
theorem dX8_answer_2 : decode cX8_answer 2 = .ok (.invokevirtual 98, 3) := by decide +kernel
theorem dX8_answer_5 : decode cX8_answer 5 = .ok (.astore_n 3, 1) := by decide +kernel
theorem dX8_answer_6 : decode cX8_answer 6 = .ok (.aload_n 0, 1) := by decide +kernel
theorem dX8_answer_7 : decode cX8_answer 7 = .ok (.iload_n 1, 1) := by decide +kernel
theorem dX8_answer_8 : decode cX8_answer 8 = .ok (.invokestatic 353, 3) := by decide +kernel
theorem dX8_answer_11 : decode cX8_answer 11 = .ok (.invokevirtual 98, 3) := by decide +kernel
theorem dX8_answer_14 : decode cX8_answer 14 = .ok (.getfield 78, 3) := by decide +kernel
theorem dX8_answer_17 : decode cX8_answer 17 = .ok (.astore 4, 2) := by decide +kernel
theorem dX8_answer_19 : decode cX8_answer 19 = .ok (.aload_n 3, 1) := by decide +kernel
theorem dX8_answer_20 : decode cX8_answer 20 = .ok (.getfield 140, 3) := by decide +kernel
theorem dX8_answer_23 : decode cX8_answer 23 = .ok (.invokevirtual 143, 3) := by decide +kernel
theorem dX8_answer_26 : decode cX8_answer 26 = .ok (.istore 5, 2) := by decide +kernel
theorem dX8_answer_28 : decode cX8_answer 28 = .ok (.iconst 0, 1) := by decide +kernel
theorem dX8_answer_29 : decode cX8_answer 29 = .ok (.istore 6, 2) := by decide +kernel
theorem dX8_answer_31 : decode cX8_answer 31 = .ok (.iload_n 2, 1) := by decide +kernel
theorem dX8_answer_32 : decode cX8_answer 32 = .ok (.iconst 1, 1) := by decide +kernel
theorem dX8_answer_33 : decode cX8_answer 33 = .ok (.invokestatic 383, 3) := by decide +kernel
theorem dX8_answer_36 : decode cX8_answer 36 = .ok (.istore 7, 2) := by decide +kernel
theorem dX8_answer_38 : decode cX8_answer 38 = .ok (.iload 7, 2) := by decide +kernel
theorem dX8_answer_40 : decode cX8_answer 40 = .ok (.iload 5, 2) := by decide +kernel
theorem dX8_answer_42 : decode cX8_answer 42 = .ok (.if_icmp .gt 93, 3) := by decide +kernel
theorem dX8_answer_45 : decode cX8_answer 45 = .ok (.aload_n 3, 1) := by decide +kernel
theorem dX8_answer_46 : decode cX8_answer 46 = .ok (.iload 7, 2) := by decide +kernel
theorem dX8_answer_48 : decode cX8_answer 48 = .ok (.invokevirtual 317, 3) := by decide +kernel
theorem dX8_answer_51 : decode cX8_answer 51 = .ok (.astore 8, 2) := by decide +kernel
theorem dX8_answer_53 : decode cX8_answer 53 = .ok (.aload 8, 2) := by decide +kernel
theorem dX8_answer_55 : decode cX8_answer 55 = .ok (.ifnull 46, 3) := by decide +kernel
theorem dX8_answer_58 : decode cX8_answer 58 = .ok (.aload_n 0, 1) := by decide +kernel
theorem dX8_answer_59 : decode cX8_answer 59 = .ok (.aload 8, 2) := by decide +kernel
theorem dX8_answer_61 : decode cX8_answer 61 = .ok (.invokevirtual 386, 3) := by decide +kernel
theorem dX8_answer_64 : decode cX8_answer 64 = .ok (.ifCond .eq 37, 3) := by decide +kernel
theorem dX8_answer_67 : decode cX8_answer 67 = .ok (.iload 6, 2) := by decide +kernel
theorem dX8_answer_69 : decode cX8_answer 69 = .ok (.ifCond .eq 15, 3) := by decide +kernel
theorem dX8_answer_72 : decode cX8_answer 72 = .ok (.aload 4, 2) := by decide +kernel
theorem dX8_answer_74 : decode cX8_answer 74 = .ok (.iload 6, 2) := by decide +kernel
theorem dX8_answer_76 : decode cX8_answer 76 = .ok (.iload 7, 2) := by decide +kernel
theorem dX8_answer_78 : decode cX8_answer 78 = .ok (.invokevirtual 356, 3) := by decide +kernel
theorem dX8_answer_81 : decode cX8_answer 81 = .ok (.iconst 0, 1) := by decide +kernel
theorem dX8_answer_82 : decode cX8_answer 82 = .ok (.istore 6, 2) := by decide +kernel
theorem dX8_answer_84 : decode cX8_answer 84 = .ok (.aload 8, 2) := by decide +kernel
theorem dX8_answer_86 : decode cX8_answer 86 = .ok (.iconst 1, 1) := by decide +kernel
theorem dX8_answer_87 : decode cX8_answer 87 = .ok (.putfield 390, 3) := by decide +kernel
theorem dX8_answer_90 : decode cX8_answer 90 = .ok (.aload 4, 2) := by decide +kernel
theorem dX8_answer_92 : decode cX8_answer 92 = .ok (.iload 7, 2) := by decide +kernel
theorem dX8_answer_94 : decode cX8_answer 94 = .ok (.iconst 1, 1) := by decide +kernel
theorem dX8_answer_95 : decode cX8_answer 95 = .ok (.invokevirtual 356, 3) := by decide +kernel
theorem dX8_answer_98 : decode cX8_answer 98 = .ok (.goto 23, 3) := by decide +kernel
theorem dX8_answer_101 : decode cX8_answer 101 = .ok (.aload_n 0, 1) := by decide +kernel
theorem dX8_answer_102 : decode cX8_answer 102 = .ok (.aload 8, 2) := by decide +kernel
theorem dX8_answer_104 : decode cX8_answer 104 = .ok (.invokevirtual 393, 3) := by decide +kernel
theorem dX8_answer_107 : decode cX8_answer 107 = .ok (.iload 6, 2) := by decide +kernel
theorem dX8_answer_109 : decode cX8_answer 109 = .ok (.ifCond .ne 8, 3) := by decide +kernel
theorem dX8_answer_112 : decode cX8_answer 112 = .ok (.iload 7, 2) := by decide +kernel
theorem dX8_answer_114 : decode cX8_answer 114 = .ok (.goto 5, 3) := by decide +kernel
theorem dX8_answer_117 : decode cX8_answer 117 = .ok (.iload 6, 2) := by decide +kernel
theorem dX8_answer_119 : decode cX8_answer 119 = .ok (.istore 6, 2) := by decide +kernel
theorem dX8_answer_121 : decode cX8_answer 121 = .ok (.aload_n 3, 1) := by decide +kernel
theorem dX8_answer_122 : decode cX8_answer 122 = .ok (.aload_n 0, 1) := by decide +kernel
theorem dX8_answer_123 : decode cX8_answer 123 = .ok (.getfield 61, 3) := by decide +kernel
theorem dX8_answer_126 : decode cX8_answer 126 = .ok (.putfield 350, 3) := by decide +kernel
theorem dX8_answer_129 : decode cX8_answer 129 = .ok (.iinc 7 1, 3) := by decide +kernel
theorem dX8_answer_132 : decode cX8_answer 132 = .ok (.goto (-94), 3) := by decide +kernel
theorem dX8_answer_135 : decode cX8_answer 135 = .ok (.iload 6, 2) := by decide +kernel
theorem dX8_answer_137 : decode cX8_answer 137 = .ok (.ifCond .eq 14, 3) := by decide +kernel
theorem dX8_answer_140 : decode cX8_answer 140 = .ok (.aload 4, 2) := by decide +kernel
theorem dX8_answer_142 : decode cX8_answer 142 = .ok (.iload 6, 2) := by decide +kernel
theorem dX8_answer_144 : decode cX8_answer 144 = .ok (.iload 5, 2) := by decide +kernel
theorem dX8_answer_146 : decode cX8_answer 146 = .ok (.iconst 1, 1) := by decide +kernel
theorem dX8_answer_147 : decode cX8_answer 147 = .ok (.iadd, 1) := by decide +kernel
theorem dX8_answer_148 : decode cX8_answer 148 = .ok (.invokevirtual 356, 3) := by decide +kernel
theorem dX8_answer_151 : decode cX8_answer 151 = .ok (.return_, 1) := by decide +kernel
theorem dX8_mayGoAgain_0 : decode cX8_mayGoAgain 0 = .ok (.aload_n 1, 1) := by decide +kernel
theorem dX8_mayGoAgain_1 : decode cX8_mayGoAgain 1 = .ok (.getfield 362, 3) := by decide +kernel
theorem dX8_mayGoAgain_4 : decode cX8_mayGoAgain 4 = .ok (.iconst 5, 1) := by decide +kernel
theorem dX8_mayGoAgain_5 : decode cX8_mayGoAgain 5 = .ok (.if_icmp .ne 30, 3) := by decide +kernel
theorem dX8_mayGoAgain_8 : decode cX8_mayGoAgain 8 = .ok (.aload_n 1, 1) := by decide +kernel
theorem dX8_mayGoAgain_9 : decode cX8_mayGoAgain 9 = .ok (.getfield 390, 3) := by decide +kernel
theorem dX8_mayGoAgain_12 : decode cX8_mayGoAgain 12 = .ok (.ifCond .ne 17, 3) := by decide +kernel
theorem dX8_mayGoAgain_15 : decode cX8_mayGoAgain 15 = .ok (.aload_n 0, 1) := by decide +kernel
theorem dX8_mayGoAgain_16 : decode cX8_mayGoAgain 16 = .ok (.getfield 61, 3) := by decide +kernel
theorem dX8_mayGoAgain_19 : decode cX8_mayGoAgain 19 = .ok (.aload_n 1, 1) := by decide +kernel
theorem dX8_mayGoAgain_20 : decode cX8_mayGoAgain 20 = .ok (.getfield 397, 3) := by decide +kernel
theorem dX8_mayGoAgain_23 : decode cX8_mayGoAgain 23 = .ok (.isub, 1) := by decide +kernel
theorem dX8_mayGoAgain_24 : decode cX8_mayGoAgain 24 = .ok (.bipush 20, 2) := by decide +kernel
theorem dX8_mayGoAgain_26 : decode cX8_mayGoAgain 26 = .ok (.if_icmp .gt 7, 3) := by decide +kernel
theorem dX8_mayGoAgain_29 : decode cX8_mayGoAgain 29 = .ok (.iconst 1, 1) := by decide +kernel
theorem dX8_mayGoAgain_30 : decode cX8_mayGoAgain 30 = .ok (.goto 4, 3) := by decide +kernel
theorem dX8_mayGoAgain_33 : decode cX8_mayGoAgain 33 = .ok (.iconst 0, 1) := by decide +kernel
theorem dX8_mayGoAgain_34 : decode cX8_mayGoAgain 34 = .ok (.ireturn, 1) := by decide +kernel
theorem dX8_mayGoAgain_35 : decode cX8_mayGoAgain 35 = .ok (.aload_n 1, 1) := by decide +kernel
theorem dX8_mayGoAgain_36 : decode cX8_mayGoAgain 36 = .ok (.getfield 362, 3) := by decide +kernel
theorem dX8_mayGoAgain_39 : decode cX8_mayGoAgain 39 = .ok (.iconst 5, 1) := by decide +kernel
theorem dX8_mayGoAgain_40 : decode cX8_mayGoAgain 40 = .ok (.if_icmp .le 7, 3) := by decide +kernel
theorem dX8_mayGoAgain_43 : decode cX8_mayGoAgain 43 = .ok (.iconst 1, 1) := by decide +kernel
theorem dX8_mayGoAgain_44 : decode cX8_mayGoAgain 44 = .ok (.goto 4, 3) := by decide +kernel
theorem dX8_mayGoAgain_47 : decode cX8_mayGoAgain 47 = .ok (.iconst 0, 1) := by decide +kernel
theorem dX8_mayGoAgain_48 : decode cX8_mayGoAgain 48 = .ok (.ireturn, 1) := by decide +kernel
theorem dX8_leaveOutOrderOf_0 : decode cX8_leaveOutOrderOf 0 = .ok (.aload_n 1, 1) := by decide +kernel
theorem dX8_leaveOutOrderOf_1 : decode cX8_leaveOutOrderOf 1 = .ok (.ifnull 11, 3) := by decide +kernel
theorem dX8_leaveOutOrderOf_4 : decode cX8_leaveOutOrderOf 4 = .ok (.aload_n 1, 1) := by decide +kernel
theorem dX8_leaveOutOrderOf_5 : decode cX8_leaveOutOrderOf 5 = .ok (.getfield 362, 3) := by decide +kernel
theorem dX8_leaveOutOrderOf_8 : decode cX8_leaveOutOrderOf 8 = .ok (.iconst 5, 1) := by decide +kernel
theorem dX8_leaveOutOrderOf_9 : decode cX8_leaveOutOrderOf 9 = .ok (.if_icmp .eq 4, 3) := by decide +kernel
theorem dX8_leaveOutOrderOf_12 : decode cX8_leaveOutOrderOf 12 = .ok (.return_, 1) := by decide +kernel
theorem dX8_leaveOutOrderOf_13 : decode cX8_leaveOutOrderOf 13 = .ok (.aload_n 0, 1) := by decide +kernel
theorem dX8_leaveOutOrderOf_14 : decode cX8_leaveOutOrderOf 14 = .ok (.aload_n 1, 1) := by decide +kernel
theorem dX8_leaveOutOrderOf_15 : decode cX8_leaveOutOrderOf 15 = .ok (.bipush 11, 2) := by decide +kernel
theorem dX8_leaveOutOrderOf_17 : decode cX8_leaveOutOrderOf 17 = .ok (.invokevirtual 365, 3) := by decide +kernel
theorem dX8_leaveOutOrderOf_20 : decode cX8_leaveOutOrderOf 20 = .ok (.invokevirtual 323, 3) := by decide +kernel
theorem dX8_leaveOutOrderOf_23 : decode cX8_leaveOutOrderOf 23 = .ok (.astore_n 2, 1) := by decide +kernel
theorem dX8_leaveOutOrderOf_24 : decode cX8_leaveOutOrderOf 24 = .ok (.aload_n 2, 1) := by decide +kernel
theorem dX8_leaveOutOrderOf_25 : decode cX8_leaveOutOrderOf 25 = .ok (.ifnull 8, 3) := by decide +kernel
theorem dX8_leaveOutOrderOf_28 : decode cX8_leaveOutOrderOf 28 = .ok (.aload_n 2, 1) := by decide +kernel
theorem dX8_leaveOutOrderOf_29 : decode cX8_leaveOutOrderOf 29 = .ok (.iconst 1, 1) := by decide +kernel
theorem dX8_leaveOutOrderOf_30 : decode cX8_leaveOutOrderOf 30 = .ok (.putfield 212, 3) := by decide +kernel
theorem dX8_leaveOutOrderOf_33 : decode cX8_leaveOutOrderOf 33 = .ok (.return_, 1) := by decide +kernel
theorem dX8_workInTurn_0 : decode cX8_workInTurn 0 = .ok (.aload_n 0, 1) := by decide +kernel
theorem dX8_workInTurn_1 : decode cX8_workInTurn 1 = .ok (.iload_n 1, 1) := by decide +kernel
theorem dX8_workInTurn_2 : decode cX8_workInTurn 2 = .ok (.invokevirtual 98, 3) := by decide +kernel
theorem dX8_workInTurn_5 : decode cX8_workInTurn 5 = .ok (.astore_n 3, 1) := by decide +kernel
theorem dX8_workInTurn_6 : decode cX8_workInTurn 6 = .ok (.aload_n 0, 1) := by decide +kernel
theorem dX8_workInTurn_7 : decode cX8_workInTurn 7 = .ok (.iload_n 1, 1) := by decide +kernel
theorem dX8_workInTurn_8 : decode cX8_workInTurn 8 = .ok (.invokestatic 353, 3) := by decide +kernel
theorem dX8_workInTurn_11 : decode cX8_workInTurn 11 = .ok (.invokevirtual 98, 3) := by decide +kernel
theorem dX8_workInTurn_14 : decode cX8_workInTurn 14 = .ok (.astore 4, 2) := by decide +kernel
theorem dX8_workInTurn_16 : decode cX8_workInTurn 16 = .ok (.iload_n 2, 1) := by decide +kernel
theorem dX8_workInTurn_17 : decode cX8_workInTurn 17 = .ok (.istore 5, 2) := by decide +kernel
theorem dX8_workInTurn_19 : decode cX8_workInTurn 19 = .ok (.aload 4, 2) := by decide +kernel
theorem dX8_workInTurn_21 : decode cX8_workInTurn 21 = .ok (.getfield 140, 3) := by decide +kernel
theorem dX8_workInTurn_24 : decode cX8_workInTurn 24 = .ok (.invokevirtual 143, 3) := by decide +kernel
theorem dX8_workInTurn_27 : decode cX8_workInTurn 27 = .ok (.istore 6, 2) := by decide +kernel
theorem dX8_workInTurn_29 : decode cX8_workInTurn 29 = .ok (.iconst 0, 1) := by decide +kernel
theorem dX8_workInTurn_30 : decode cX8_workInTurn 30 = .ok (.istore 7, 2) := by decide +kernel
theorem dX8_workInTurn_32 : decode cX8_workInTurn 32 = .ok (.iload 7, 2) := by decide +kernel
theorem dX8_workInTurn_34 : decode cX8_workInTurn 34 = .ok (.iload 6, 2) := by decide +kernel
theorem dX8_workInTurn_36 : decode cX8_workInTurn 36 = .ok (.if_icmp .ge 77, 3) := by decide +kernel
theorem dX8_workInTurn_39 : decode cX8_workInTurn 39 = .ok (.iload 5, 2) := by decide +kernel
theorem dX8_workInTurn_41 : decode cX8_workInTurn 41 = .ok (.ifCond .eq 72, 3) := by decide +kernel
theorem dX8_workInTurn_44 : decode cX8_workInTurn 44 = .ok (.aload_n 3, 1) := by decide +kernel
theorem dX8_workInTurn_45 : decode cX8_workInTurn 45 = .ok (.getfield 153, 3) := by decide +kernel
theorem dX8_workInTurn_48 : decode cX8_workInTurn 48 = .ok (.istore 8, 2) := by decide +kernel
theorem dX8_workInTurn_50 : decode cX8_workInTurn 50 = .ok (.aload_n 3, 1) := by decide +kernel
theorem dX8_workInTurn_51 : decode cX8_workInTurn 51 = .ok (.iload 8, 2) := by decide +kernel
theorem dX8_workInTurn_53 : decode cX8_workInTurn 53 = .ok (.iconst 1, 1) := by decide +kernel
theorem dX8_workInTurn_54 : decode cX8_workInTurn 54 = .ok (.iadd, 1) := by decide +kernel
theorem dX8_workInTurn_55 : decode cX8_workInTurn 55 = .ok (.iload 5, 2) := by decide +kernel
theorem dX8_workInTurn_57 : decode cX8_workInTurn 57 = .ok (.invokestatic 383, 3) := by decide +kernel
theorem dX8_workInTurn_60 : decode cX8_workInTurn 60 = .ok (.putfield 153, 3) := by decide +kernel
theorem dX8_workInTurn_63 : decode cX8_workInTurn 63 = .ok (.iload 5, 2) := by decide +kernel
theorem dX8_workInTurn_65 : decode cX8_workInTurn 65 = .ok (.iconst 1, 1) := by decide +kernel
theorem dX8_workInTurn_66 : decode cX8_workInTurn 66 = .ok (.if_icmp .ne 15, 3) := by decide +kernel
theorem dX8_workInTurn_69 : decode cX8_workInTurn 69 = .ok (.aload_n 0, 1) := by decide +kernel
theorem dX8_workInTurn_70 : decode cX8_workInTurn 70 = .ok (.iload_n 1, 1) := by decide +kernel
theorem dX8_workInTurn_71 : decode cX8_workInTurn 71 = .ok (.aload 4, 2) := by decide +kernel
theorem dX8_workInTurn_73 : decode cX8_workInTurn 73 = .ok (.iload 8, 2) := by decide +kernel
theorem dX8_workInTurn_75 : decode cX8_workInTurn 75 = .ok (.invokevirtual 317, 3) := by decide +kernel
theorem dX8_workInTurn_78 : decode cX8_workInTurn 78 = .ok (.invokevirtual 400, 3) := by decide +kernel
theorem dX8_workInTurn_81 : decode cX8_workInTurn 81 = .ok (.aload_n 3, 1) := by decide +kernel
theorem dX8_workInTurn_82 : decode cX8_workInTurn 82 = .ok (.getfield 156, 3) := by decide +kernel
theorem dX8_workInTurn_85 : decode cX8_workInTurn 85 = .ok (.iload 8, 2) := by decide +kernel
theorem dX8_workInTurn_87 : decode cX8_workInTurn 87 = .ok (.aload_n 3, 1) := by decide +kernel
theorem dX8_workInTurn_88 : decode cX8_workInTurn 88 = .ok (.getfield 153, 3) := by decide +kernel
theorem dX8_workInTurn_91 : decode cX8_workInTurn 91 = .ok (.invokevirtual 404, 3) := by decide +kernel
theorem dX8_workInTurn_94 : decode cX8_workInTurn 94 = .ok (.aload_n 3, 1) := by decide +kernel
theorem dX8_workInTurn_95 : decode cX8_workInTurn 95 = .ok (.getfield 156, 3) := by decide +kernel
theorem dX8_workInTurn_98 : decode cX8_workInTurn 98 = .ok (.aload_n 3, 1) := by decide +kernel
theorem dX8_workInTurn_99 : decode cX8_workInTurn 99 = .ok (.getfield 153, 3) := by decide +kernel
theorem dX8_workInTurn_102 : decode cX8_workInTurn 102 = .ok (.invokevirtual 407, 3) := by decide +kernel
theorem dX8_workInTurn_105 : decode cX8_workInTurn 105 = .ok (.istore 5, 2) := by decide +kernel
theorem dX8_workInTurn_107 : decode cX8_workInTurn 107 = .ok (.iinc 7 1, 3) := by decide +kernel
theorem dX8_workInTurn_110 : decode cX8_workInTurn 110 = .ok (.goto (-78), 3) := by decide +kernel
theorem dX8_workInTurn_113 : decode cX8_workInTurn 113 = .ok (.return_, 1) := by decide +kernel
theorem dX8_workOff_0 : decode cX8_workOff 0 = .ok (.aload_n 2, 1) := by decide +kernel
theorem dX8_workOff_1 : decode cX8_workOff 1 = .ok (.ifnonnull 4, 3) := by decide +kernel
theorem dX8_workOff_4 : decode cX8_workOff 4 = .ok (.return_, 1) := by decide +kernel
theorem dX8_workOff_5 : decode cX8_workOff 5 = .ok (.aload_n 2, 1) := by decide +kernel
theorem dX8_workOff_6 : decode cX8_workOff 6 = .ok (.getfield 362, 3) := by decide +kernel
theorem dX8_workOff_9 : decode cX8_workOff 9 = .ok (.tableswitch 106 2 8 #[43, 106, 106, 55, 63, 80, 98], 43) := by decide +kernel
theorem dX8_workOff_52 : decode cX8_workOff 52 = .ok (.aload_n 0, 1) := by decide +kernel
theorem dX8_workOff_53 : decode cX8_workOff 53 = .ok (.iload_n 1, 1) := by decide +kernel
theorem dX8_workOff_54 : decode cX8_workOff 54 = .ok (.iconst 1, 1) := by decide +kernel
theorem dX8_workOff_55 : decode cX8_workOff 55 = .ok (.getstatic 68, 3) := by decide +kernel
theorem dX8_workOff_58 : decode cX8_workOff 58 = .ok (.invokevirtual 72, 3) := by decide +kernel
theorem dX8_workOff_61 : decode cX8_workOff 61 = .ok (.goto 54, 3) := by decide +kernel
theorem dX8_workOff_64 : decode cX8_workOff 64 = .ok (.aload_n 0, 1) := by decide +kernel
theorem dX8_workOff_65 : decode cX8_workOff 65 = .ok (.aload_n 2, 1) := by decide +kernel
theorem dX8_workOff_66 : decode cX8_workOff 66 = .ok (.invokevirtual 410, 3) := by decide +kernel
theorem dX8_workOff_69 : decode cX8_workOff 69 = .ok (.goto 46, 3) := by decide +kernel
theorem dX8_workOff_72 : decode cX8_workOff 72 = .ok (.aload_n 0, 1) := by decide +kernel
theorem dX8_workOff_73 : decode cX8_workOff 73 = .ok (.aload_n 0, 1) := by decide +kernel
theorem dX8_workOff_74 : decode cX8_workOff 74 = .ok (.aload_n 2, 1) := by decide +kernel
theorem dX8_workOff_75 : decode cX8_workOff 75 = .ok (.bipush 41, 2) := by decide +kernel
theorem dX8_workOff_77 : decode cX8_workOff 77 = .ok (.invokevirtual 365, 3) := by decide +kernel
theorem dX8_workOff_80 : decode cX8_workOff 80 = .ok (.invokevirtual 323, 3) := by decide +kernel
theorem dX8_workOff_83 : decode cX8_workOff 83 = .ok (.invokevirtual 413, 3) := by decide +kernel
theorem dX8_workOff_86 : decode cX8_workOff 86 = .ok (.goto 29, 3) := by decide +kernel
theorem dX8_workOff_89 : decode cX8_workOff 89 = .ok (.aload_n 0, 1) := by decide +kernel
theorem dX8_workOff_90 : decode cX8_workOff 90 = .ok (.aload_n 0, 1) := by decide +kernel
theorem dX8_workOff_91 : decode cX8_workOff 91 = .ok (.aload_n 2, 1) := by decide +kernel
theorem dX8_workOff_92 : decode cX8_workOff 92 = .ok (.bipush 41, 2) := by decide +kernel
theorem dX8_workOff_94 : decode cX8_workOff 94 = .ok (.invokevirtual 365, 3) := by decide +kernel
theorem dX8_workOff_97 : decode cX8_workOff 97 = .ok (.invokevirtual 323, 3) := by decide +kernel
theorem dX8_workOff_100 : decode cX8_workOff 100 = .ok (.aload_n 2, 1) := by decide +kernel
theorem dX8_workOff_101 : decode cX8_workOff 101 = .ok (.invokevirtual 416, 3) := by decide +kernel
theorem dX8_workOff_104 : decode cX8_workOff 104 = .ok (.goto 11, 3) := by decide +kernel
theorem dX8_workOff_107 : decode cX8_workOff 107 = .ok (.aload_n 0, 1) := by decide +kernel
theorem dX8_workOff_108 : decode cX8_workOff 108 = .ok (.aload_n 2, 1) := by decide +kernel
theorem dX8_workOff_109 : decode cX8_workOff 109 = .ok (.invokevirtual 420, 3) := by decide +kernel
theorem dX8_workOff_112 : decode cX8_workOff 112 = .ok (.goto 3, 3) := by decide +kernel
theorem dX8_workOff_115 : decode cX8_workOff 115 = .ok (.return_, 1) := by decide +kernel
theorem dX8_houseTakesOrder_0 : decode cX8_houseTakesOrder 0 = .ok (.aload_n 0, 1) := by decide +kernel
theorem dX8_houseTakesOrder_1 : decode cX8_houseTakesOrder 1 = .ok (.aload_n 1, 1) := by decide +kernel
theorem dX8_houseTakesOrder_2 : decode cX8_houseTakesOrder 2 = .ok (.bipush 11, 2) := by decide +kernel
theorem dX8_houseTakesOrder_4 : decode cX8_houseTakesOrder 4 = .ok (.invokevirtual 365, 3) := by decide +kernel
theorem dX8_houseTakesOrder_7 : decode cX8_houseTakesOrder 7 = .ok (.invokevirtual 323, 3) := by decide +kernel
theorem dX8_houseTakesOrder_10 : decode cX8_houseTakesOrder 10 = .ok (.astore_n 2, 1) := by decide +kernel
theorem dX8_houseTakesOrder_11 : decode cX8_houseTakesOrder 11 = .ok (.aload_n 2, 1) := by decide +kernel
theorem dX8_houseTakesOrder_12 : decode cX8_houseTakesOrder 12 = .ok (.ifnull 10, 3) := by decide +kernel
theorem dX8_houseTakesOrder_15 : decode cX8_houseTakesOrder 15 = .ok (.aload_n 2, 1) := by decide +kernel
theorem dX8_houseTakesOrder_16 : decode cX8_houseTakesOrder 16 = .ok (.getfield 306, 3) := by decide +kernel
theorem dX8_houseTakesOrder_19 : decode cX8_houseTakesOrder 19 = .ok (.ifCond .eq 4, 3) := by decide +kernel
theorem dX8_houseTakesOrder_22 : decode cX8_houseTakesOrder 22 = .ok (.return_, 1) := by decide +kernel
theorem dX8_houseTakesOrder_23 : decode cX8_houseTakesOrder 23 = .ok (.aload_n 2, 1) := by decide +kernel
theorem dX8_houseTakesOrder_24 : decode cX8_houseTakesOrder 24 = .ok (.iconst 1, 1) := by decide +kernel
theorem dX8_houseTakesOrder_25 : decode cX8_houseTakesOrder 25 = .ok (.putfield 306, 3) := by decide +kernel
theorem dX8_houseTakesOrder_28 : decode cX8_houseTakesOrder 28 = .ok (.aload_n 2, 1) := by decide +kernel
theorem dX8_houseTakesOrder_29 : decode cX8_houseTakesOrder 29 = .ok (.getfield 255, 3) := by decide +kernel
theorem dX8_houseTakesOrder_32 : decode cX8_houseTakesOrder 32 = .ok (.aload_n 1, 1) := by decide +kernel
theorem dX8_houseTakesOrder_33 : decode cX8_houseTakesOrder 33 = .ok (.bipush 44, 2) := by decide +kernel
theorem dX8_houseTakesOrder_35 : decode cX8_houseTakesOrder 35 = .ok (.invokevirtual 365, 3) := by decide +kernel
theorem dX8_houseTakesOrder_38 : decode cX8_houseTakesOrder 38 = .ok (.putfield 423, 3) := by decide +kernel
theorem dX8_houseTakesOrder_41 : decode cX8_houseTakesOrder 41 = .ok (.aload_n 2, 1) := by decide +kernel
theorem dX8_houseTakesOrder_42 : decode cX8_houseTakesOrder 42 = .ok (.getfield 255, 3) := by decide +kernel
theorem dX8_houseTakesOrder_45 : decode cX8_houseTakesOrder 45 = .ok (.aload_n 1, 1) := by decide +kernel
theorem dX8_houseTakesOrder_46 : decode cX8_houseTakesOrder 46 = .ok (.bipush 38, 2) := by decide +kernel
theorem dX8_houseTakesOrder_48 : decode cX8_houseTakesOrder 48 = .ok (.invokevirtual 365, 3) := by decide +kernel
theorem dX8_houseTakesOrder_51 : decode cX8_houseTakesOrder 51 = .ok (.putfield 424, 3) := by decide +kernel
theorem dX8_houseTakesOrder_54 : decode cX8_houseTakesOrder 54 = .ok (.aload_n 0, 1) := by decide +kernel
theorem dX8_houseTakesOrder_55 : decode cX8_houseTakesOrder 55 = .ok (.aload_n 2, 1) := by decide +kernel
theorem dX8_houseTakesOrder_56 : decode cX8_houseTakesOrder 56 = .ok (.invokevirtual 425, 3) := by decide +kernel
theorem dX8_houseTakesOrder_59 : decode cX8_houseTakesOrder 59 = .ok (.aload_n 0, 1) := by decide +kernel
theorem dX8_houseTakesOrder_60 : decode cX8_houseTakesOrder 60 = .ok (.iconst 0, 1) := by decide +kernel
theorem dX8_houseTakesOrder_61 : decode cX8_houseTakesOrder 61 = .ok (.aload_n 2, 1) := by decide +kernel
theorem dX8_houseTakesOrder_62 : decode cX8_houseTakesOrder 62 = .ok (.invokevirtual 428, 3) := by decide +kernel
theorem dX8_houseTakesOrder_65 : decode cX8_houseTakesOrder 65 = .ok (.aload_n 0, 1) := by decide +kernel
theorem dX8_houseTakesOrder_66 : decode cX8_houseTakesOrder 66 = .ok (.aload_n 2, 1) := by decide +kernel
theorem dX8_houseTakesOrder_67 : decode cX8_houseTakesOrder 67 = .ok (.invokevirtual 235, 3) := by decide +kernel
theorem dX8_houseTakesOrder_70 : decode cX8_houseTakesOrder 70 = .ok (.return_, 1) := by decide +kernel
theorem dX8_houseCancels_0 : decode cX8_houseCancels 0 = .ok (.aload_n 1, 1) := by decide +kernel
theorem dX8_houseCancels_1 : decode cX8_houseCancels 1 = .ok (.ifnonnull 4, 3) := by decide +kernel
theorem dX8_houseCancels_4 : decode cX8_houseCancels 4 = .ok (.return_, 1) := by decide +kernel
theorem dX8_houseCancels_5 : decode cX8_houseCancels 5 = .ok (.aload_n 1, 1) := by decide +kernel
theorem dX8_houseCancels_6 : decode cX8_houseCancels 6 = .ok (.getfield 255, 3) := by decide +kernel
theorem dX8_houseCancels_9 : decode cX8_houseCancels 9 = .ok (.invokevirtual 432, 3) := by decide +kernel
theorem dX8_houseCancels_12 : decode cX8_houseCancels 12 = .ok (.istore_n 2, 1) := by decide +kernel
theorem dX8_houseCancels_13 : decode cX8_houseCancels 13 = .ok (.aload_n 1, 1) := by decide +kernel
theorem dX8_houseCancels_14 : decode cX8_houseCancels 14 = .ok (.getfield 306, 3) := by decide +kernel
theorem dX8_houseCancels_17 : decode cX8_houseCancels 17 = .ok (.ifCond .eq 7, 3) := by decide +kernel
theorem dX8_houseCancels_20 : decode cX8_houseCancels 20 = .ok (.iload_n 2, 1) := by decide +kernel
theorem dX8_houseCancels_21 : decode cX8_houseCancels 21 = .ok (.ifCond .gt 10, 3) := by decide +kernel
theorem dX8_houseCancels_24 : decode cX8_houseCancels 24 = .ok (.aload_n 0, 1) := by decide +kernel
theorem dX8_houseCancels_25 : decode cX8_houseCancels 25 = .ok (.iconst 4, 1) := by decide +kernel
theorem dX8_houseCancels_26 : decode cX8_houseCancels 26 = .ok (.aload_n 1, 1) := by decide +kernel
theorem dX8_houseCancels_27 : decode cX8_houseCancels 27 = .ok (.invokevirtual 428, 3) := by decide +kernel
theorem dX8_houseCancels_30 : decode cX8_houseCancels 30 = .ok (.return_, 1) := by decide +kernel
theorem dX8_houseCancels_31 : decode cX8_houseCancels 31 = .ok (.aload_n 1, 1) := by decide +kernel
theorem dX8_houseCancels_32 : decode cX8_houseCancels 32 = .ok (.getfield 255, 3) := by decide +kernel
theorem dX8_houseCancels_35 : decode cX8_houseCancels 35 = .ok (.dup, 1) := by decide +kernel
theorem dX8_houseCancels_36 : decode cX8_houseCancels 36 = .ok (.getfield 288, 3) := by decide +kernel
theorem dX8_houseCancels_39 : decode cX8_houseCancels 39 = .ok (.iload_n 2, 1) := by decide +kernel
theorem dX8_houseCancels_40 : decode cX8_houseCancels 40 = .ok (.iadd, 1) := by decide +kernel
theorem dX8_houseCancels_41 : decode cX8_houseCancels 41 = .ok (.putfield 288, 3) := by decide +kernel
theorem dX8_houseCancels_44 : decode cX8_houseCancels 44 = .ok (.aload_n 0, 1) := by decide +kernel
theorem dX8_houseCancels_45 : decode cX8_houseCancels 45 = .ok (.iconst 1, 1) := by decide +kernel
theorem dX8_houseCancels_46 : decode cX8_houseCancels 46 = .ok (.bipush 8, 2) := by decide +kernel
theorem dX8_houseCancels_48 : decode cX8_houseCancels 48 = .ok (.bipush 6, 2) := by decide +kernel
theorem dX8_houseCancels_50 : decode cX8_houseCancels 50 = .ok (.newarray .int, 2) := by decide +kernel
theorem dX8_houseCancels_52 : decode cX8_houseCancels 52 = .ok (.dup, 1) := by decide +kernel
theorem dX8_houseCancels_53 : decode cX8_houseCancels 53 = .ok (.iconst 0, 1) := by decide +kernel
theorem dX8_houseCancels_54 : decode cX8_houseCancels 54 = .ok (.sipush 150, 3) := by decide +kernel
theorem dX8_houseCancels_57 : decode cX8_houseCancels 57 = .ok (.iastore, 1) := by decide +kernel
theorem dX8_houseCancels_58 : decode cX8_houseCancels 58 = .ok (.dup, 1) := by decide +kernel
theorem dX8_houseCancels_59 : decode cX8_houseCancels 59 = .ok (.iconst 1, 1) := by decide +kernel
theorem dX8_houseCancels_60 : decode cX8_houseCancels 60 = .ok (.iconst 2, 1) := by decide +kernel
theorem dX8_houseCancels_61 : decode cX8_houseCancels 61 = .ok (.iastore, 1) := by decide +kernel
theorem dX8_houseCancels_62 : decode cX8_houseCancels 62 = .ok (.dup, 1) := by decide +kernel
theorem dX8_houseCancels_63 : decode cX8_houseCancels 63 = .ok (.iconst 2, 1) := by decide +kernel
theorem dX8_houseCancels_64 : decode cX8_houseCancels 64 = .ok (.bipush 37, 2) := by decide +kernel
theorem dX8_houseCancels_66 : decode cX8_houseCancels 66 = .ok (.iastore, 1) := by decide +kernel
theorem dX8_houseCancels_67 : decode cX8_houseCancels 67 = .ok (.dup, 1) := by decide +kernel
theorem dX8_houseCancels_68 : decode cX8_houseCancels 68 = .ok (.iconst 3, 1) := by decide +kernel
theorem dX8_houseCancels_69 : decode cX8_houseCancels 69 = .ok (.aload_n 1, 1) := by decide +kernel
theorem dX8_houseCancels_70 : decode cX8_houseCancels 70 = .ok (.getfield 265, 3) := by decide +kernel
theorem dX8_houseCancels_73 : decode cX8_houseCancels 73 = .ok (.iastore, 1) := by decide +kernel
theorem dX8_houseCancels_74 : decode cX8_houseCancels 74 = .ok (.dup, 1) := by decide +kernel
theorem dX8_houseCancels_75 : decode cX8_houseCancels 75 = .ok (.iconst 4, 1) := by decide +kernel
theorem dX8_houseCancels_76 : decode cX8_houseCancels 76 = .ok (.bipush 32, 2) := by decide +kernel
theorem dX8_houseCancels_78 : decode cX8_houseCancels 78 = .ok (.iastore, 1) := by decide +kernel
theorem dX8_houseCancels_79 : decode cX8_houseCancels 79 = .ok (.dup, 1) := by decide +kernel
theorem dX8_houseCancels_80 : decode cX8_houseCancels 80 = .ok (.iconst 5, 1) := by decide +kernel
theorem dX8_houseCancels_81 : decode cX8_houseCancels 81 = .ok (.iload_n 2, 1) := by decide +kernel
theorem dX8_houseCancels_82 : decode cX8_houseCancels 82 = .ok (.iastore, 1) := by decide +kernel
theorem dX8_houseCancels_83 : decode cX8_houseCancels 83 = .ok (.invokevirtual 72, 3) := by decide +kernel
theorem dX8_houseCancels_86 : decode cX8_houseCancels 86 = .ok (.return_, 1) := by decide +kernel
theorem dX8_houseReplaces_0 : decode cX8_houseReplaces 0 = .ok (.aload_n 1, 1) := by decide +kernel
theorem dX8_houseReplaces_1 : decode cX8_houseReplaces 1 = .ok (.ifnonnull 4, 3) := by decide +kernel
theorem dX8_houseReplaces_4 : decode cX8_houseReplaces 4 = .ok (.return_, 1) := by decide +kernel
theorem dX8_houseReplaces_5 : decode cX8_houseReplaces 5 = .ok (.aload_n 1, 1) := by decide +kernel
theorem dX8_houseReplaces_6 : decode cX8_houseReplaces 6 = .ok (.getfield 255, 3) := by decide +kernel
theorem dX8_houseReplaces_9 : decode cX8_houseReplaces 9 = .ok (.astore_n 3, 1) := by decide +kernel
theorem dX8_houseReplaces_10 : decode cX8_houseReplaces 10 = .ok (.aload_n 2, 1) := by decide +kernel
theorem dX8_houseReplaces_11 : decode cX8_houseReplaces 11 = .ok (.bipush 44, 2) := by decide +kernel
theorem dX8_houseReplaces_13 : decode cX8_houseReplaces 13 = .ok (.invokevirtual 365, 3) := by decide +kernel
theorem dX8_houseReplaces_16 : decode cX8_houseReplaces 16 = .ok (.istore 4, 2) := by decide +kernel
theorem dX8_houseReplaces_18 : decode cX8_houseReplaces 18 = .ok (.aload_n 2, 1) := by decide +kernel
theorem dX8_houseReplaces_19 : decode cX8_houseReplaces 19 = .ok (.bipush 38, 2) := by decide +kernel
theorem dX8_houseReplaces_21 : decode cX8_houseReplaces 21 = .ok (.invokevirtual 365, 3) := by decide +kernel
theorem dX8_houseReplaces_24 : decode cX8_houseReplaces 24 = .ok (.istore 5, 2) := by decide +kernel
theorem dX8_houseReplaces_26 : decode cX8_houseReplaces 26 = .ok (.aload_n 1, 1) := by decide +kernel
theorem dX8_houseReplaces_27 : decode cX8_houseReplaces 27 = .ok (.getfield 306, 3) := by decide +kernel
theorem dX8_houseReplaces_30 : decode cX8_houseReplaces 30 = .ok (.ifCond .eq 24, 3) := by decide +kernel
theorem dX8_houseReplaces_33 : decode cX8_houseReplaces 33 = .ok (.aload_n 3, 1) := by decide +kernel
theorem dX8_houseReplaces_34 : decode cX8_houseReplaces 34 = .ok (.invokevirtual 432, 3) := by decide +kernel
theorem dX8_houseReplaces_37 : decode cX8_houseReplaces 37 = .ok (.ifCond .le 17, 3) := by decide +kernel
theorem dX8_houseReplaces_40 : decode cX8_houseReplaces 40 = .ok (.iload 5, 2) := by decide +kernel
theorem dX8_houseReplaces_42 : decode cX8_houseReplaces 42 = .ok (.aload_n 3, 1) := by decide +kernel
theorem dX8_houseReplaces_43 : decode cX8_houseReplaces 43 = .ok (.getfield 268, 3) := by decide +kernel
theorem dX8_houseReplaces_46 : decode cX8_houseReplaces 46 = .ok (.aload_n 3, 1) := by decide +kernel
theorem dX8_houseReplaces_47 : decode cX8_houseReplaces 47 = .ok (.getfield 288, 3) := by decide +kernel
theorem dX8_houseReplaces_50 : decode cX8_houseReplaces 50 = .ok (.iadd, 1) := by decide +kernel
theorem dX8_houseReplaces_51 : decode cX8_houseReplaces 51 = .ok (.if_icmp .gt 10, 3) := by decide +kernel
theorem dX8_houseReplaces_54 : decode cX8_houseReplaces 54 = .ok (.aload_n 0, 1) := by decide +kernel
theorem dX8_houseReplaces_55 : decode cX8_houseReplaces 55 = .ok (.iconst 4, 1) := by decide +kernel
theorem dX8_houseReplaces_56 : decode cX8_houseReplaces 56 = .ok (.aload_n 1, 1) := by decide +kernel
theorem dX8_houseReplaces_57 : decode cX8_houseReplaces 57 = .ok (.invokevirtual 428, 3) := by decide +kernel
theorem dX8_houseReplaces_60 : decode cX8_houseReplaces 60 = .ok (.return_, 1) := by decide +kernel
theorem dX8_houseReplaces_61 : decode cX8_houseReplaces 61 = .ok (.aload_n 3, 1) := by decide +kernel
theorem dX8_houseReplaces_62 : decode cX8_houseReplaces 62 = .ok (.iload 4, 2) := by decide +kernel
theorem dX8_houseReplaces_64 : decode cX8_houseReplaces 64 = .ok (.putfield 423, 3) := by decide +kernel
theorem dX8_houseReplaces_67 : decode cX8_houseReplaces 67 = .ok (.aload_n 3, 1) := by decide +kernel
theorem dX8_houseReplaces_68 : decode cX8_houseReplaces 68 = .ok (.iload 5, 2) := by decide +kernel
theorem dX8_houseReplaces_70 : decode cX8_houseReplaces 70 = .ok (.putfield 424, 3) := by decide +kernel
theorem dX8_houseReplaces_73 : decode cX8_houseReplaces 73 = .ok (.aload_n 0, 1) := by decide +kernel
theorem dX8_houseReplaces_74 : decode cX8_houseReplaces 74 = .ok (.aload_n 1, 1) := by decide +kernel
theorem dX8_houseReplaces_75 : decode cX8_houseReplaces 75 = .ok (.invokevirtual 425, 3) := by decide +kernel
theorem dX8_houseReplaces_78 : decode cX8_houseReplaces 78 = .ok (.aload_n 0, 1) := by decide +kernel
theorem dX8_houseReplaces_79 : decode cX8_houseReplaces 79 = .ok (.iconst 1, 1) := by decide +kernel
theorem dX8_houseReplaces_80 : decode cX8_houseReplaces 80 = .ok (.bipush 8, 2) := by decide +kernel
theorem dX8_houseReplaces_82 : decode cX8_houseReplaces 82 = .ok (.bipush 8, 2) := by decide +kernel
theorem dX8_houseReplaces_84 : decode cX8_houseReplaces 84 = .ok (.newarray .int, 2) := by decide +kernel
theorem dX8_houseReplaces_86 : decode cX8_houseReplaces 86 = .ok (.dup, 1) := by decide +kernel
theorem dX8_houseReplaces_87 : decode cX8_houseReplaces 87 = .ok (.iconst 0, 1) := by decide +kernel
theorem dX8_houseReplaces_88 : decode cX8_houseReplaces 88 = .ok (.sipush 150, 3) := by decide +kernel
theorem dX8_houseReplaces_91 : decode cX8_houseReplaces 91 = .ok (.iastore, 1) := by decide +kernel
theorem dX8_houseReplaces_92 : decode cX8_houseReplaces 92 = .ok (.dup, 1) := by decide +kernel
theorem dX8_houseReplaces_93 : decode cX8_houseReplaces 93 = .ok (.iconst 1, 1) := by decide +kernel
theorem dX8_houseReplaces_94 : decode cX8_houseReplaces 94 = .ok (.iconst 3, 1) := by decide +kernel
theorem dX8_houseReplaces_95 : decode cX8_houseReplaces 95 = .ok (.iastore, 1) := by decide +kernel
theorem dX8_houseReplaces_96 : decode cX8_houseReplaces 96 = .ok (.dup, 1) := by decide +kernel
theorem dX8_houseReplaces_97 : decode cX8_houseReplaces 97 = .ok (.iconst 2, 1) := by decide +kernel
theorem dX8_houseReplaces_98 : decode cX8_houseReplaces 98 = .ok (.bipush 37, 2) := by decide +kernel
theorem dX8_houseReplaces_100 : decode cX8_houseReplaces 100 = .ok (.iastore, 1) := by decide +kernel
theorem dX8_houseReplaces_101 : decode cX8_houseReplaces 101 = .ok (.dup, 1) := by decide +kernel
theorem dX8_houseReplaces_102 : decode cX8_houseReplaces 102 = .ok (.iconst 3, 1) := by decide +kernel
theorem dX8_houseReplaces_103 : decode cX8_houseReplaces 103 = .ok (.aload_n 1, 1) := by decide +kernel
theorem dX8_houseReplaces_104 : decode cX8_houseReplaces 104 = .ok (.getfield 265, 3) := by decide +kernel
theorem dX8_houseReplaces_107 : decode cX8_houseReplaces 107 = .ok (.iastore, 1) := by decide +kernel
theorem dX8_houseReplaces_108 : decode cX8_houseReplaces 108 = .ok (.dup, 1) := by decide +kernel
theorem dX8_houseReplaces_109 : decode cX8_houseReplaces 109 = .ok (.iconst 4, 1) := by decide +kernel
theorem dX8_houseReplaces_110 : decode cX8_houseReplaces 110 = .ok (.bipush 44, 2) := by decide +kernel
theorem dX8_houseReplaces_112 : decode cX8_houseReplaces 112 = .ok (.iastore, 1) := by decide +kernel
theorem dX8_houseReplaces_113 : decode cX8_houseReplaces 113 = .ok (.dup, 1) := by decide +kernel
theorem dX8_houseReplaces_114 : decode cX8_houseReplaces 114 = .ok (.iconst 5, 1) := by decide +kernel
theorem dX8_houseReplaces_115 : decode cX8_houseReplaces 115 = .ok (.iload 4, 2) := by decide +kernel
theorem dX8_houseReplaces_117 : decode cX8_houseReplaces 117 = .ok (.iastore, 1) := by decide +kernel
theorem dX8_houseReplaces_118 : decode cX8_houseReplaces 118 = .ok (.dup, 1) := by decide +kernel
theorem dX8_houseReplaces_119 : decode cX8_houseReplaces 119 = .ok (.bipush 6, 2) := by decide +kernel
theorem dX8_houseReplaces_121 : decode cX8_houseReplaces 121 = .ok (.bipush 38, 2) := by decide +kernel
theorem dX8_houseReplaces_123 : decode cX8_houseReplaces 123 = .ok (.iastore, 1) := by decide +kernel
theorem dX8_houseReplaces_124 : decode cX8_houseReplaces 124 = .ok (.dup, 1) := by decide +kernel
theorem dX8_houseReplaces_125 : decode cX8_houseReplaces 125 = .ok (.bipush 7, 2) := by decide +kernel
theorem dX8_houseReplaces_127 : decode cX8_houseReplaces 127 = .ok (.iload 5, 2) := by decide +kernel
theorem dX8_houseReplaces_129 : decode cX8_houseReplaces 129 = .ok (.iastore, 1) := by decide +kernel
theorem dX8_houseReplaces_130 : decode cX8_houseReplaces 130 = .ok (.invokevirtual 72, 3) := by decide +kernel
theorem dX8_houseReplaces_133 : decode cX8_houseReplaces 133 = .ok (.aload_n 0, 1) := by decide +kernel
theorem dX8_houseReplaces_134 : decode cX8_houseReplaces 134 = .ok (.aload_n 1, 1) := by decide +kernel
theorem dX8_houseReplaces_135 : decode cX8_houseReplaces 135 = .ok (.invokevirtual 235, 3) := by decide +kernel
theorem dX8_houseReplaces_138 : decode cX8_houseReplaces 138 = .ok (.return_, 1) := by decide +kernel
theorem dX8_reportPlainly_0 : decode cX8_reportPlainly 0 = .ok (.aload_n 0, 1) := by decide +kernel
theorem dX8_reportPlainly_1 : decode cX8_reportPlainly 1 = .ok (.iconst 1, 1) := by decide +kernel
theorem dX8_reportPlainly_2 : decode cX8_reportPlainly 2 = .ok (.bipush 8, 2) := by decide +kernel
theorem dX8_reportPlainly_4 : decode cX8_reportPlainly 4 = .ok (.iconst 4, 1) := by decide +kernel
theorem dX8_reportPlainly_5 : decode cX8_reportPlainly 5 = .ok (.newarray .int, 2) := by decide +kernel
theorem dX8_reportPlainly_7 : decode cX8_reportPlainly 7 = .ok (.dup, 1) := by decide +kernel
theorem dX8_reportPlainly_8 : decode cX8_reportPlainly 8 = .ok (.iconst 0, 1) := by decide +kernel
theorem dX8_reportPlainly_9 : decode cX8_reportPlainly 9 = .ok (.sipush 150, 3) := by decide +kernel
theorem dX8_reportPlainly_12 : decode cX8_reportPlainly 12 = .ok (.iastore, 1) := by decide +kernel
theorem dX8_reportPlainly_13 : decode cX8_reportPlainly 13 = .ok (.dup, 1) := by decide +kernel
theorem dX8_reportPlainly_14 : decode cX8_reportPlainly 14 = .ok (.iconst 1, 1) := by decide +kernel
theorem dX8_reportPlainly_15 : decode cX8_reportPlainly 15 = .ok (.iload_n 1, 1) := by decide +kernel
theorem dX8_reportPlainly_16 : decode cX8_reportPlainly 16 = .ok (.iastore, 1) := by decide +kernel
theorem dX8_reportPlainly_17 : decode cX8_reportPlainly 17 = .ok (.dup, 1) := by decide +kernel
theorem dX8_reportPlainly_18 : decode cX8_reportPlainly 18 = .ok (.iconst 2, 1) := by decide +kernel
theorem dX8_reportPlainly_19 : decode cX8_reportPlainly 19 = .ok (.bipush 37, 2) := by decide +kernel
theorem dX8_reportPlainly_21 : decode cX8_reportPlainly 21 = .ok (.iastore, 1) := by decide +kernel
theorem dX8_reportPlainly_22 : decode cX8_reportPlainly 22 = .ok (.dup, 1) := by decide +kernel
theorem dX8_reportPlainly_23 : decode cX8_reportPlainly 23 = .ok (.iconst 3, 1) := by decide +kernel
theorem dX8_reportPlainly_24 : decode cX8_reportPlainly 24 = .ok (.aload_n 2, 1) := by decide +kernel
theorem dX8_reportPlainly_25 : decode cX8_reportPlainly 25 = .ok (.getfield 265, 3) := by decide +kernel
theorem dX8_reportPlainly_28 : decode cX8_reportPlainly 28 = .ok (.iastore, 1) := by decide +kernel
theorem dX8_reportPlainly_29 : decode cX8_reportPlainly 29 = .ok (.invokevirtual 72, 3) := by decide +kernel
theorem dX8_reportPlainly_32 : decode cX8_reportPlainly 32 = .ok (.return_, 1) := by decide +kernel
theorem dX8_rankBehindItsPrice_0 : decode cX8_rankBehindItsPrice 0 = .ok (.aload_n 0, 1) := by decide +kernel
theorem dX8_rankBehindItsPrice_1 : decode cX8_rankBehindItsPrice 1 = .ok (.aload_n 1, 1) := by decide +kernel
theorem dX8_rankBehindItsPrice_2 : decode cX8_rankBehindItsPrice 2 = .ok (.getfield 300, 3) := by decide +kernel
theorem dX8_rankBehindItsPrice_5 : decode cX8_rankBehindItsPrice 5 = .ok (.invokevirtual 227, 3) := by decide +kernel
theorem dX8_rankBehindItsPrice_8 : decode cX8_rankBehindItsPrice 8 = .ok (.astore_n 2, 1) := by decide +kernel
theorem dX8_rankBehindItsPrice_9 : decode cX8_rankBehindItsPrice 9 = .ok (.iconst 0, 1) := by decide +kernel
theorem dX8_rankBehindItsPrice_10 : decode cX8_rankBehindItsPrice 10 = .ok (.istore_n 3, 1) := by decide +kernel
theorem dX8_rankBehindItsPrice_11 : decode cX8_rankBehindItsPrice 11 = .ok (.iload_n 3, 1) := by decide +kernel
theorem dX8_rankBehindItsPrice_12 : decode cX8_rankBehindItsPrice 12 = .ok (.aload_n 2, 1) := by decide +kernel
theorem dX8_rankBehindItsPrice_13 : decode cX8_rankBehindItsPrice 13 = .ok (.invokevirtual 143, 3) := by decide +kernel
theorem dX8_rankBehindItsPrice_16 : decode cX8_rankBehindItsPrice 16 = .ok (.if_icmp .ge 27, 3) := by decide +kernel
theorem dX8_rankBehindItsPrice_19 : decode cX8_rankBehindItsPrice 19 = .ok (.aload_n 2, 1) := by decide +kernel
theorem dX8_rankBehindItsPrice_20 : decode cX8_rankBehindItsPrice 20 = .ok (.iload_n 3, 1) := by decide +kernel
theorem dX8_rankBehindItsPrice_21 : decode cX8_rankBehindItsPrice 21 = .ok (.invokevirtual 231, 3) := by decide +kernel
theorem dX8_rankBehindItsPrice_24 : decode cX8_rankBehindItsPrice 24 = .ok (.aload_n 1, 1) := by decide +kernel
theorem dX8_rankBehindItsPrice_25 : decode cX8_rankBehindItsPrice 25 = .ok (.if_acmp .ne 12, 3) := by decide +kernel
theorem dX8_rankBehindItsPrice_28 : decode cX8_rankBehindItsPrice 28 = .ok (.aload_n 2, 1) := by decide +kernel
theorem dX8_rankBehindItsPrice_29 : decode cX8_rankBehindItsPrice 29 = .ok (.iload_n 3, 1) := by decide +kernel
theorem dX8_rankBehindItsPrice_30 : decode cX8_rankBehindItsPrice 30 = .ok (.invokevirtual 435, 3) := by decide +kernel
theorem dX8_rankBehindItsPrice_33 : decode cX8_rankBehindItsPrice 33 = .ok (.pop, 1) := by decide +kernel
theorem dX8_rankBehindItsPrice_34 : decode cX8_rankBehindItsPrice 34 = .ok (.goto 9, 3) := by decide +kernel
theorem dX8_rankBehindItsPrice_37 : decode cX8_rankBehindItsPrice 37 = .ok (.iinc 3 1, 3) := by decide +kernel
theorem dX8_rankBehindItsPrice_40 : decode cX8_rankBehindItsPrice 40 = .ok (.goto (-29), 3) := by decide +kernel
theorem dX8_rankBehindItsPrice_43 : decode cX8_rankBehindItsPrice 43 = .ok (.iconst 0, 1) := by decide +kernel
theorem dX8_rankBehindItsPrice_44 : decode cX8_rankBehindItsPrice 44 = .ok (.istore_n 3, 1) := by decide +kernel
theorem dX8_rankBehindItsPrice_45 : decode cX8_rankBehindItsPrice 45 = .ok (.iload_n 3, 1) := by decide +kernel
theorem dX8_rankBehindItsPrice_46 : decode cX8_rankBehindItsPrice 46 = .ok (.aload_n 2, 1) := by decide +kernel
theorem dX8_rankBehindItsPrice_47 : decode cX8_rankBehindItsPrice 47 = .ok (.invokevirtual 143, 3) := by decide +kernel
theorem dX8_rankBehindItsPrice_50 : decode cX8_rankBehindItsPrice 50 = .ok (.if_icmp .ge 24, 3) := by decide +kernel
theorem dX8_rankBehindItsPrice_53 : decode cX8_rankBehindItsPrice 53 = .ok (.aload_n 1, 1) := by decide +kernel
theorem dX8_rankBehindItsPrice_54 : decode cX8_rankBehindItsPrice 54 = .ok (.aload_n 2, 1) := by decide +kernel
theorem dX8_rankBehindItsPrice_55 : decode cX8_rankBehindItsPrice 55 = .ok (.iload_n 3, 1) := by decide +kernel
theorem dX8_rankBehindItsPrice_56 : decode cX8_rankBehindItsPrice 56 = .ok (.invokevirtual 231, 3) := by decide +kernel
theorem dX8_rankBehindItsPrice_59 : decode cX8_rankBehindItsPrice 59 = .ok (.checkcast 189, 3) := by decide +kernel
theorem dX8_rankBehindItsPrice_62 : decode cX8_rankBehindItsPrice 62 = .ok (.invokevirtual 438, 3) := by decide +kernel
theorem dX8_rankBehindItsPrice_65 : decode cX8_rankBehindItsPrice 65 = .ok (.ifCond .ne 9, 3) := by decide +kernel
theorem dX8_rankBehindItsPrice_68 : decode cX8_rankBehindItsPrice 68 = .ok (.iinc 3 1, 3) := by decide +kernel
theorem dX8_rankBehindItsPrice_71 : decode cX8_rankBehindItsPrice 71 = .ok (.goto (-26), 3) := by decide +kernel
theorem dX8_rankBehindItsPrice_74 : decode cX8_rankBehindItsPrice 74 = .ok (.aload_n 2, 1) := by decide +kernel
theorem dX8_rankBehindItsPrice_75 : decode cX8_rankBehindItsPrice 75 = .ok (.iload_n 3, 1) := by decide +kernel
theorem dX8_rankBehindItsPrice_76 : decode cX8_rankBehindItsPrice 76 = .ok (.aload_n 1, 1) := by decide +kernel
theorem dX8_rankBehindItsPrice_77 : decode cX8_rankBehindItsPrice 77 = .ok (.invokevirtual 442, 3) := by decide +kernel
theorem dX8_rankBehindItsPrice_80 : decode cX8_rankBehindItsPrice 80 = .ok (.return_, 1) := by decide +kernel
theorem dX8_route_0 : decode cX8_route 0 = .ok (.aload_n 0, 1) := by decide +kernel
theorem dX8_route_1 : decode cX8_route 1 = .ok (.getfield 32, 3) := by decide +kernel
theorem dX8_route_4 : decode cX8_route 4 = .ok (.invokevirtual 143, 3) := by decide +kernel
theorem dX8_route_7 : decode cX8_route 7 = .ok (.istore_n 2, 1) := by decide +kernel
theorem dX8_route_8 : decode cX8_route 8 = .ok (.iload_n 2, 1) := by decide +kernel
theorem dX8_route_9 : decode cX8_route 9 = .ok (.istore_n 3, 1) := by decide +kernel
theorem dX8_route_10 : decode cX8_route 10 = .ok (.iload_n 3, 1) := by decide +kernel
theorem dX8_route_11 : decode cX8_route 11 = .ok (.bipush 100, 2) := by decide +kernel
theorem dX8_route_13 : decode cX8_route 13 = .ok (.if_icmp .ge 91, 3) := by decide +kernel
theorem dX8_route_16 : decode cX8_route 16 = .ok (.aload_n 0, 1) := by decide +kernel
theorem dX8_route_17 : decode cX8_route 17 = .ok (.aload_n 1, 1) := by decide +kernel
theorem dX8_route_18 : decode cX8_route 18 = .ok (.invokevirtual 445, 3) := by decide +kernel
theorem dX8_route_21 : decode cX8_route 21 = .ok (.astore 4, 2) := by decide +kernel
theorem dX8_route_23 : decode cX8_route 23 = .ok (.aload 4, 2) := by decide +kernel
theorem dX8_route_25 : decode cX8_route 25 = .ok (.ifnonnull 6, 3) := by decide +kernel
theorem dX8_route_28 : decode cX8_route 28 = .ok (.goto 76, 3) := by decide +kernel
theorem dX8_route_31 : decode cX8_route 31 = .ok (.aload_n 1, 1) := by decide +kernel
theorem dX8_route_32 : decode cX8_route 32 = .ok (.getfield 255, 3) := by decide +kernel
theorem dX8_route_35 : decode cX8_route 35 = .ok (.invokevirtual 432, 3) := by decide +kernel
theorem dX8_route_38 : decode cX8_route 38 = .ok (.aload 4, 2) := by decide +kernel
theorem dX8_route_40 : decode cX8_route 40 = .ok (.getfield 225, 3) := by decide +kernel
theorem dX8_route_43 : decode cX8_route 43 = .ok (.invokestatic 102, 3) := by decide +kernel
theorem dX8_route_46 : decode cX8_route 46 = .ok (.istore 5, 2) := by decide +kernel
theorem dX8_route_48 : decode cX8_route 48 = .ok (.aload_n 0, 1) := by decide +kernel
theorem dX8_route_49 : decode cX8_route 49 = .ok (.getfield 32, 3) := by decide +kernel
theorem dX8_route_52 : decode cX8_route 52 = .ok (.new 247, 3) := by decide +kernel
theorem dX8_route_55 : decode cX8_route 55 = .ok (.dup, 1) := by decide +kernel
theorem dX8_route_56 : decode cX8_route 56 = .ok (.aload_n 1, 1) := by decide +kernel
theorem dX8_route_57 : decode cX8_route 57 = .ok (.aload 4, 2) := by decide +kernel
theorem dX8_route_59 : decode cX8_route 59 = .ok (.iload 5, 2) := by decide +kernel
theorem dX8_route_61 : decode cX8_route 61 = .ok (.aload_n 0, 1) := by decide +kernel
theorem dX8_route_62 : decode cX8_route 62 = .ok (.getfield 272, 3) := by decide +kernel
theorem dX8_route_65 : decode cX8_route 65 = .ok (.invokespecial 449, 3) := by decide +kernel
theorem dX8_route_68 : decode cX8_route 68 = .ok (.invokevirtual 194, 3) := by decide +kernel
theorem dX8_route_71 : decode cX8_route 71 = .ok (.pop, 1) := by decide +kernel
theorem dX8_route_72 : decode cX8_route 72 = .ok (.aload_n 1, 1) := by decide +kernel
theorem dX8_route_73 : decode cX8_route 73 = .ok (.getfield 255, 3) := by decide +kernel
theorem dX8_route_76 : decode cX8_route 76 = .ok (.dup, 1) := by decide +kernel
theorem dX8_route_77 : decode cX8_route 77 = .ok (.getfield 268, 3) := by decide +kernel
theorem dX8_route_80 : decode cX8_route 80 = .ok (.iload 5, 2) := by decide +kernel
theorem dX8_route_82 : decode cX8_route 82 = .ok (.iadd, 1) := by decide +kernel
theorem dX8_route_83 : decode cX8_route 83 = .ok (.putfield 268, 3) := by decide +kernel
theorem dX8_route_86 : decode cX8_route 86 = .ok (.aload 4, 2) := by decide +kernel
theorem dX8_route_88 : decode cX8_route 88 = .ok (.dup, 1) := by decide +kernel
theorem dX8_route_89 : decode cX8_route 89 = .ok (.getfield 225, 3) := by decide +kernel
theorem dX8_route_92 : decode cX8_route 92 = .ok (.iload 5, 2) := by decide +kernel
theorem dX8_route_94 : decode cX8_route 94 = .ok (.isub, 1) := by decide +kernel
theorem dX8_route_95 : decode cX8_route 95 = .ok (.putfield 225, 3) := by decide +kernel
theorem dX8_route_98 : decode cX8_route 98 = .ok (.iinc 3 1, 3) := by decide +kernel
theorem dX8_route_101 : decode cX8_route 101 = .ok (.goto (-91), 3) := by decide +kernel
theorem dX8_route_104 : decode cX8_route 104 = .ok (.aload_n 0, 1) := by decide +kernel
theorem dX8_route_105 : decode cX8_route 105 = .ok (.getfield 32, 3) := by decide +kernel
theorem dX8_route_108 : decode cX8_route 108 = .ok (.invokevirtual 143, 3) := by decide +kernel
theorem dX8_route_111 : decode cX8_route 111 = .ok (.iload_n 2, 1) := by decide +kernel
theorem dX8_route_112 : decode cX8_route 112 = .ok (.if_icmp .le 16, 3) := by decide +kernel
theorem dX8_route_115 : decode cX8_route 115 = .ok (.aload_n 0, 1) := by decide +kernel
theorem dX8_route_116 : decode cX8_route 116 = .ok (.iconst 1, 1) := by decide +kernel
theorem dX8_route_117 : decode cX8_route 117 = .ok (.bipush 8, 2) := by decide +kernel
theorem dX8_route_119 : decode cX8_route 119 = .ok (.aload_n 0, 1) := by decide +kernel
theorem dX8_route_120 : decode cX8_route 120 = .ok (.aload_n 1, 1) := by decide +kernel
theorem dX8_route_121 : decode cX8_route 121 = .ok (.iload_n 2, 1) := by decide +kernel
theorem dX8_route_122 : decode cX8_route 122 = .ok (.invokevirtual 452, 3) := by decide +kernel
theorem dX8_route_125 : decode cX8_route 125 = .ok (.invokevirtual 72, 3) := by decide +kernel
theorem dX8_route_128 : decode cX8_route 128 = .ok (.return_, 1) := by decide +kernel
theorem dX8_bestQuoteFor_0 : decode cX8_bestQuoteFor 0 = .ok (.aload_n 0, 1) := by decide +kernel
theorem dX8_bestQuoteFor_1 : decode cX8_bestQuoteFor 1 = .ok (.aload_n 1, 1) := by decide +kernel
theorem dX8_bestQuoteFor_2 : decode cX8_bestQuoteFor 2 = .ok (.getfield 300, 3) := by decide +kernel
theorem dX8_bestQuoteFor_5 : decode cX8_bestQuoteFor 5 = .ok (.invokevirtual 330, 3) := by decide +kernel
theorem dX8_bestQuoteFor_8 : decode cX8_bestQuoteFor 8 = .ok (.astore_n 2, 1) := by decide +kernel
theorem dX8_bestQuoteFor_9 : decode cX8_bestQuoteFor 9 = .ok (.aconst_null, 1) := by decide +kernel
theorem dX8_bestQuoteFor_10 : decode cX8_bestQuoteFor 10 = .ok (.astore_n 3, 1) := by decide +kernel
theorem dX8_bestQuoteFor_11 : decode cX8_bestQuoteFor 11 = .ok (.iconst 0, 1) := by decide +kernel
theorem dX8_bestQuoteFor_12 : decode cX8_bestQuoteFor 12 = .ok (.istore 4, 2) := by decide +kernel
theorem dX8_bestQuoteFor_14 : decode cX8_bestQuoteFor 14 = .ok (.iload 4, 2) := by decide +kernel
theorem dX8_bestQuoteFor_16 : decode cX8_bestQuoteFor 16 = .ok (.aload_n 2, 1) := by decide +kernel
theorem dX8_bestQuoteFor_17 : decode cX8_bestQuoteFor 17 = .ok (.arraylength, 1) := by decide +kernel
theorem dX8_bestQuoteFor_18 : decode cX8_bestQuoteFor 18 = .ok (.if_icmp .ge 44, 3) := by decide +kernel
theorem dX8_bestQuoteFor_21 : decode cX8_bestQuoteFor 21 = .ok (.aload_n 2, 1) := by decide +kernel
theorem dX8_bestQuoteFor_22 : decode cX8_bestQuoteFor 22 = .ok (.iload 4, 2) := by decide +kernel
theorem dX8_bestQuoteFor_24 : decode cX8_bestQuoteFor 24 = .ok (.aaload, 1) := by decide +kernel
theorem dX8_bestQuoteFor_25 : decode cX8_bestQuoteFor 25 = .ok (.astore 5, 2) := by decide +kernel
theorem dX8_bestQuoteFor_27 : decode cX8_bestQuoteFor 27 = .ok (.aload_n 1, 1) := by decide +kernel
theorem dX8_bestQuoteFor_28 : decode cX8_bestQuoteFor 28 = .ok (.aload 5, 2) := by decide +kernel
theorem dX8_bestQuoteFor_30 : decode cX8_bestQuoteFor 30 = .ok (.invokevirtual 456, 3) := by decide +kernel
theorem dX8_bestQuoteFor_33 : decode cX8_bestQuoteFor 33 = .ok (.ifCond .eq 23, 3) := by decide +kernel
theorem dX8_bestQuoteFor_36 : decode cX8_bestQuoteFor 36 = .ok (.aload_n 3, 1) := by decide +kernel
theorem dX8_bestQuoteFor_37 : decode cX8_bestQuoteFor 37 = .ok (.ifnull 16, 3) := by decide +kernel
theorem dX8_bestQuoteFor_40 : decode cX8_bestQuoteFor 40 = .ok (.aload 5, 2) := by decide +kernel
theorem dX8_bestQuoteFor_42 : decode cX8_bestQuoteFor 42 = .ok (.aload_n 3, 1) := by decide +kernel
theorem dX8_bestQuoteFor_43 : decode cX8_bestQuoteFor 43 = .ok (.aload_n 1, 1) := by decide +kernel
theorem dX8_bestQuoteFor_44 : decode cX8_bestQuoteFor 44 = .ok (.getfield 300, 3) := by decide +kernel
theorem dX8_bestQuoteFor_47 : decode cX8_bestQuoteFor 47 = .ok (.invokevirtual 460, 3) := by decide +kernel
theorem dX8_bestQuoteFor_50 : decode cX8_bestQuoteFor 50 = .ok (.ifCond .eq 6, 3) := by decide +kernel
theorem dX8_bestQuoteFor_53 : decode cX8_bestQuoteFor 53 = .ok (.aload 5, 2) := by decide +kernel
theorem dX8_bestQuoteFor_55 : decode cX8_bestQuoteFor 55 = .ok (.astore_n 3, 1) := by decide +kernel
theorem dX8_bestQuoteFor_56 : decode cX8_bestQuoteFor 56 = .ok (.iinc 4 1, 3) := by decide +kernel
theorem dX8_bestQuoteFor_59 : decode cX8_bestQuoteFor 59 = .ok (.goto (-45), 3) := by decide +kernel
theorem dX8_bestQuoteFor_62 : decode cX8_bestQuoteFor 62 = .ok (.aload_n 3, 1) := by decide +kernel
theorem dX8_bestQuoteFor_63 : decode cX8_bestQuoteFor 63 = .ok (.areturn, 1) := by decide +kernel
theorem dX8_bodyOfFilled_0 : decode cX8_bodyOfFilled 0 = .ok (.aload_n 0, 1) := by decide +kernel
theorem dX8_bodyOfFilled_1 : decode cX8_bodyOfFilled 1 = .ok (.getfield 32, 3) := by decide +kernel
theorem dX8_bodyOfFilled_4 : decode cX8_bodyOfFilled 4 = .ok (.invokevirtual 143, 3) := by decide +kernel
theorem dX8_bodyOfFilled_7 : decode cX8_bodyOfFilled 7 = .ok (.iload_n 2, 1) := by decide +kernel
theorem dX8_bodyOfFilled_8 : decode cX8_bodyOfFilled 8 = .ok (.isub, 1) := by decide +kernel
theorem dX8_bodyOfFilled_9 : decode cX8_bodyOfFilled 9 = .ok (.istore_n 3, 1) := by decide +kernel
theorem dX8_bodyOfFilled_10 : decode cX8_bodyOfFilled 10 = .ok (.bipush 6, 2) := by decide +kernel
theorem dX8_bodyOfFilled_12 : decode cX8_bodyOfFilled 12 = .ok (.newarray .int, 2) := by decide +kernel
theorem dX8_bodyOfFilled_14 : decode cX8_bodyOfFilled 14 = .ok (.dup, 1) := by decide +kernel
theorem dX8_bodyOfFilled_15 : decode cX8_bodyOfFilled 15 = .ok (.iconst 0, 1) := by decide +kernel
theorem dX8_bodyOfFilled_16 : decode cX8_bodyOfFilled 16 = .ok (.sipush 150, 3) := by decide +kernel
theorem dX8_bodyOfFilled_19 : decode cX8_bodyOfFilled 19 = .ok (.iastore, 1) := by decide +kernel
theorem dX8_bodyOfFilled_20 : decode cX8_bodyOfFilled 20 = .ok (.dup, 1) := by decide +kernel
theorem dX8_bodyOfFilled_21 : decode cX8_bodyOfFilled 21 = .ok (.iconst 1, 1) := by decide +kernel
theorem dX8_bodyOfFilled_22 : decode cX8_bodyOfFilled 22 = .ok (.iconst 1, 1) := by decide +kernel
theorem dX8_bodyOfFilled_23 : decode cX8_bodyOfFilled 23 = .ok (.iastore, 1) := by decide +kernel
theorem dX8_bodyOfFilled_24 : decode cX8_bodyOfFilled 24 = .ok (.dup, 1) := by decide +kernel
theorem dX8_bodyOfFilled_25 : decode cX8_bodyOfFilled 25 = .ok (.iconst 2, 1) := by decide +kernel
theorem dX8_bodyOfFilled_26 : decode cX8_bodyOfFilled 26 = .ok (.bipush 37, 2) := by decide +kernel
theorem dX8_bodyOfFilled_28 : decode cX8_bodyOfFilled 28 = .ok (.iastore, 1) := by decide +kernel
theorem dX8_bodyOfFilled_29 : decode cX8_bodyOfFilled 29 = .ok (.dup, 1) := by decide +kernel
theorem dX8_bodyOfFilled_30 : decode cX8_bodyOfFilled 30 = .ok (.iconst 3, 1) := by decide +kernel
theorem dX8_bodyOfFilled_31 : decode cX8_bodyOfFilled 31 = .ok (.aload_n 1, 1) := by decide +kernel
theorem dX8_bodyOfFilled_32 : decode cX8_bodyOfFilled 32 = .ok (.getfield 265, 3) := by decide +kernel
theorem dX8_bodyOfFilled_35 : decode cX8_bodyOfFilled 35 = .ok (.iastore, 1) := by decide +kernel
theorem dX8_bodyOfFilled_36 : decode cX8_bodyOfFilled 36 = .ok (.dup, 1) := by decide +kernel
theorem dX8_bodyOfFilled_37 : decode cX8_bodyOfFilled 37 = .ok (.iconst 4, 1) := by decide +kernel
theorem dX8_bodyOfFilled_38 : decode cX8_bodyOfFilled 38 = .ok (.sipush 382, 3) := by decide +kernel
theorem dX8_bodyOfFilled_41 : decode cX8_bodyOfFilled 41 = .ok (.iastore, 1) := by decide +kernel
theorem dX8_bodyOfFilled_42 : decode cX8_bodyOfFilled 42 = .ok (.dup, 1) := by decide +kernel
theorem dX8_bodyOfFilled_43 : decode cX8_bodyOfFilled 43 = .ok (.iconst 5, 1) := by decide +kernel
theorem dX8_bodyOfFilled_44 : decode cX8_bodyOfFilled 44 = .ok (.iload_n 3, 1) := by decide +kernel
theorem dX8_bodyOfFilled_45 : decode cX8_bodyOfFilled 45 = .ok (.iastore, 1) := by decide +kernel
theorem dX8_bodyOfFilled_46 : decode cX8_bodyOfFilled 46 = .ok (.astore 4, 2) := by decide +kernel
theorem dX8_bodyOfFilled_48 : decode cX8_bodyOfFilled 48 = .ok (.aload 4, 2) := by decide +kernel
theorem dX8_bodyOfFilled_50 : decode cX8_bodyOfFilled 50 = .ok (.aload 4, 2) := by decide +kernel
theorem dX8_bodyOfFilled_52 : decode cX8_bodyOfFilled 52 = .ok (.arraylength, 1) := by decide +kernel
theorem dX8_bodyOfFilled_53 : decode cX8_bodyOfFilled 53 = .ok (.bipush 8, 2) := by decide +kernel
theorem dX8_bodyOfFilled_55 : decode cX8_bodyOfFilled 55 = .ok (.iload_n 3, 1) := by decide +kernel
theorem dX8_bodyOfFilled_56 : decode cX8_bodyOfFilled 56 = .ok (.imul, 1) := by decide +kernel
theorem dX8_bodyOfFilled_57 : decode cX8_bodyOfFilled 57 = .ok (.iadd, 1) := by decide +kernel
theorem dX8_bodyOfFilled_58 : decode cX8_bodyOfFilled 58 = .ok (.invokestatic 464, 3) := by decide +kernel
theorem dX8_bodyOfFilled_61 : decode cX8_bodyOfFilled 61 = .ok (.astore 5, 2) := by decide +kernel
theorem dX8_bodyOfFilled_63 : decode cX8_bodyOfFilled 63 = .ok (.aload 4, 2) := by decide +kernel
theorem dX8_bodyOfFilled_65 : decode cX8_bodyOfFilled 65 = .ok (.arraylength, 1) := by decide +kernel
theorem dX8_bodyOfFilled_66 : decode cX8_bodyOfFilled 66 = .ok (.istore 6, 2) := by decide +kernel
theorem dX8_bodyOfFilled_68 : decode cX8_bodyOfFilled 68 = .ok (.iload_n 2, 1) := by decide +kernel
theorem dX8_bodyOfFilled_69 : decode cX8_bodyOfFilled 69 = .ok (.istore 7, 2) := by decide +kernel
theorem dX8_bodyOfFilled_71 : decode cX8_bodyOfFilled 71 = .ok (.iload 7, 2) := by decide +kernel
theorem dX8_bodyOfFilled_73 : decode cX8_bodyOfFilled 73 = .ok (.aload_n 0, 1) := by decide +kernel
theorem dX8_bodyOfFilled_74 : decode cX8_bodyOfFilled 74 = .ok (.getfield 32, 3) := by decide +kernel
theorem dX8_bodyOfFilled_77 : decode cX8_bodyOfFilled 77 = .ok (.invokevirtual 143, 3) := by decide +kernel
theorem dX8_bodyOfFilled_80 : decode cX8_bodyOfFilled 80 = .ok (.if_icmp .ge 118, 3) := by decide +kernel
theorem dX8_bodyOfFilled_83 : decode cX8_bodyOfFilled 83 = .ok (.iload 6, 2) := by decide +kernel
theorem dX8_bodyOfFilled_85 : decode cX8_bodyOfFilled 85 = .ok (.bipush 8, 2) := by decide +kernel
theorem dX8_bodyOfFilled_87 : decode cX8_bodyOfFilled 87 = .ok (.iadd, 1) := by decide +kernel
theorem dX8_bodyOfFilled_88 : decode cX8_bodyOfFilled 88 = .ok (.aload 5, 2) := by decide +kernel
theorem dX8_bodyOfFilled_90 : decode cX8_bodyOfFilled 90 = .ok (.arraylength, 1) := by decide +kernel
theorem dX8_bodyOfFilled_91 : decode cX8_bodyOfFilled 91 = .ok (.if_icmp .gt 107, 3) := by decide +kernel
theorem dX8_bodyOfFilled_94 : decode cX8_bodyOfFilled 94 = .ok (.aload_n 0, 1) := by decide +kernel
theorem dX8_bodyOfFilled_95 : decode cX8_bodyOfFilled 95 = .ok (.getfield 32, 3) := by decide +kernel
theorem dX8_bodyOfFilled_98 : decode cX8_bodyOfFilled 98 = .ok (.iload 7, 2) := by decide +kernel
theorem dX8_bodyOfFilled_100 : decode cX8_bodyOfFilled 100 = .ok (.invokevirtual 231, 3) := by decide +kernel
theorem dX8_bodyOfFilled_103 : decode cX8_bodyOfFilled 103 = .ok (.checkcast 247, 3) := by decide +kernel
theorem dX8_bodyOfFilled_106 : decode cX8_bodyOfFilled 106 = .ok (.astore 8, 2) := by decide +kernel
theorem dX8_bodyOfFilled_108 : decode cX8_bodyOfFilled 108 = .ok (.aload 5, 2) := by decide +kernel
theorem dX8_bodyOfFilled_110 : decode cX8_bodyOfFilled 110 = .ok (.iload 6, 2) := by decide +kernel
theorem dX8_bodyOfFilled_112 : decode cX8_bodyOfFilled 112 = .ok (.bipush 17, 2) := by decide +kernel
theorem dX8_bodyOfFilled_114 : decode cX8_bodyOfFilled 114 = .ok (.iastore, 1) := by decide +kernel
theorem dX8_bodyOfFilled_115 : decode cX8_bodyOfFilled 115 = .ok (.aload 5, 2) := by decide +kernel
theorem dX8_bodyOfFilled_117 : decode cX8_bodyOfFilled 117 = .ok (.iload 6, 2) := by decide +kernel
theorem dX8_bodyOfFilled_119 : decode cX8_bodyOfFilled 119 = .ok (.iconst 1, 1) := by decide +kernel
theorem dX8_bodyOfFilled_120 : decode cX8_bodyOfFilled 120 = .ok (.iadd, 1) := by decide +kernel
theorem dX8_bodyOfFilled_121 : decode cX8_bodyOfFilled 121 = .ok (.iload 7, 2) := by decide +kernel
theorem dX8_bodyOfFilled_123 : decode cX8_bodyOfFilled 123 = .ok (.iastore, 1) := by decide +kernel
theorem dX8_bodyOfFilled_124 : decode cX8_bodyOfFilled 124 = .ok (.aload 5, 2) := by decide +kernel
theorem dX8_bodyOfFilled_126 : decode cX8_bodyOfFilled 126 = .ok (.iload 6, 2) := by decide +kernel
theorem dX8_bodyOfFilled_128 : decode cX8_bodyOfFilled 128 = .ok (.iconst 2, 1) := by decide +kernel
theorem dX8_bodyOfFilled_129 : decode cX8_bodyOfFilled 129 = .ok (.iadd, 1) := by decide +kernel
theorem dX8_bodyOfFilled_130 : decode cX8_bodyOfFilled 130 = .ok (.bipush 30, 2) := by decide +kernel
theorem dX8_bodyOfFilled_132 : decode cX8_bodyOfFilled 132 = .ok (.iastore, 1) := by decide +kernel
theorem dX8_bodyOfFilled_133 : decode cX8_bodyOfFilled 133 = .ok (.aload 5, 2) := by decide +kernel
theorem dX8_bodyOfFilled_135 : decode cX8_bodyOfFilled 135 = .ok (.iload 6, 2) := by decide +kernel
theorem dX8_bodyOfFilled_137 : decode cX8_bodyOfFilled 137 = .ok (.iconst 3, 1) := by decide +kernel
theorem dX8_bodyOfFilled_138 : decode cX8_bodyOfFilled 138 = .ok (.iadd, 1) := by decide +kernel
theorem dX8_bodyOfFilled_139 : decode cX8_bodyOfFilled 139 = .ok (.aload 8, 2) := by decide +kernel
theorem dX8_bodyOfFilled_141 : decode cX8_bodyOfFilled 141 = .ok (.getfield 343, 3) := by decide +kernel
theorem dX8_bodyOfFilled_144 : decode cX8_bodyOfFilled 144 = .ok (.iastore, 1) := by decide +kernel
theorem dX8_bodyOfFilled_145 : decode cX8_bodyOfFilled 145 = .ok (.aload 5, 2) := by decide +kernel
theorem dX8_bodyOfFilled_147 : decode cX8_bodyOfFilled 147 = .ok (.iload 6, 2) := by decide +kernel
theorem dX8_bodyOfFilled_149 : decode cX8_bodyOfFilled 149 = .ok (.iconst 4, 1) := by decide +kernel
theorem dX8_bodyOfFilled_150 : decode cX8_bodyOfFilled 150 = .ok (.iadd, 1) := by decide +kernel
theorem dX8_bodyOfFilled_151 : decode cX8_bodyOfFilled 151 = .ok (.bipush 31, 2) := by decide +kernel
theorem dX8_bodyOfFilled_153 : decode cX8_bodyOfFilled 153 = .ok (.iastore, 1) := by decide +kernel
theorem dX8_bodyOfFilled_154 : decode cX8_bodyOfFilled 154 = .ok (.aload 5, 2) := by decide +kernel
theorem dX8_bodyOfFilled_156 : decode cX8_bodyOfFilled 156 = .ok (.iload 6, 2) := by decide +kernel
theorem dX8_bodyOfFilled_158 : decode cX8_bodyOfFilled 158 = .ok (.iconst 5, 1) := by decide +kernel
theorem dX8_bodyOfFilled_159 : decode cX8_bodyOfFilled 159 = .ok (.iadd, 1) := by decide +kernel
theorem dX8_bodyOfFilled_160 : decode cX8_bodyOfFilled 160 = .ok (.aload 8, 2) := by decide +kernel
theorem dX8_bodyOfFilled_162 : decode cX8_bodyOfFilled 162 = .ok (.getfield 271, 3) := by decide +kernel
theorem dX8_bodyOfFilled_165 : decode cX8_bodyOfFilled 165 = .ok (.iastore, 1) := by decide +kernel
theorem dX8_bodyOfFilled_166 : decode cX8_bodyOfFilled 166 = .ok (.aload 5, 2) := by decide +kernel
theorem dX8_bodyOfFilled_168 : decode cX8_bodyOfFilled 168 = .ok (.iload 6, 2) := by decide +kernel
theorem dX8_bodyOfFilled_170 : decode cX8_bodyOfFilled 170 = .ok (.bipush 6, 2) := by decide +kernel
theorem dX8_bodyOfFilled_172 : decode cX8_bodyOfFilled 172 = .ok (.iadd, 1) := by decide +kernel
theorem dX8_bodyOfFilled_173 : decode cX8_bodyOfFilled 173 = .ok (.bipush 32, 2) := by decide +kernel
theorem dX8_bodyOfFilled_175 : decode cX8_bodyOfFilled 175 = .ok (.iastore, 1) := by decide +kernel
theorem dX8_bodyOfFilled_176 : decode cX8_bodyOfFilled 176 = .ok (.aload 5, 2) := by decide +kernel
theorem dX8_bodyOfFilled_178 : decode cX8_bodyOfFilled 178 = .ok (.iload 6, 2) := by decide +kernel
theorem dX8_bodyOfFilled_180 : decode cX8_bodyOfFilled 180 = .ok (.bipush 7, 2) := by decide +kernel
theorem dX8_bodyOfFilled_182 : decode cX8_bodyOfFilled 182 = .ok (.iadd, 1) := by decide +kernel
theorem dX8_bodyOfFilled_183 : decode cX8_bodyOfFilled 183 = .ok (.aload 8, 2) := by decide +kernel
theorem dX8_bodyOfFilled_185 : decode cX8_bodyOfFilled 185 = .ok (.getfield 259, 3) := by decide +kernel
theorem dX8_bodyOfFilled_188 : decode cX8_bodyOfFilled 188 = .ok (.iastore, 1) := by decide +kernel
theorem dX8_bodyOfFilled_189 : decode cX8_bodyOfFilled 189 = .ok (.iinc 6 8, 3) := by decide +kernel
theorem dX8_bodyOfFilled_192 : decode cX8_bodyOfFilled 192 = .ok (.iinc 7 1, 3) := by decide +kernel
theorem dX8_bodyOfFilled_195 : decode cX8_bodyOfFilled 195 = .ok (.goto (-124), 3) := by decide +kernel
theorem dX8_bodyOfFilled_198 : decode cX8_bodyOfFilled 198 = .ok (.aload 5, 2) := by decide +kernel
theorem dX8_bodyOfFilled_200 : decode cX8_bodyOfFilled 200 = .ok (.areturn, 1) := by decide +kernel
theorem dX8_traderReads_0 : decode cX8_traderReads 0 = .ok (.aload_n 0, 1) := by decide +kernel
theorem dX8_traderReads_1 : decode cX8_traderReads 1 = .ok (.aload_n 1, 1) := by decide +kernel
theorem dX8_traderReads_2 : decode cX8_traderReads 2 = .ok (.bipush 37, 2) := by decide +kernel
theorem dX8_traderReads_4 : decode cX8_traderReads 4 = .ok (.invokevirtual 365, 3) := by decide +kernel
theorem dX8_traderReads_7 : decode cX8_traderReads 7 = .ok (.invokevirtual 323, 3) := by decide +kernel
theorem dX8_traderReads_10 : decode cX8_traderReads 10 = .ok (.astore_n 2, 1) := by decide +kernel
theorem dX8_traderReads_11 : decode cX8_traderReads 11 = .ok (.aload_n 2, 1) := by decide +kernel
theorem dX8_traderReads_12 : decode cX8_traderReads 12 = .ok (.ifnonnull 4, 3) := by decide +kernel
theorem dX8_traderReads_15 : decode cX8_traderReads 15 = .ok (.return_, 1) := by decide +kernel
theorem dX8_traderReads_16 : decode cX8_traderReads 16 = .ok (.aload_n 1, 1) := by decide +kernel
theorem dX8_traderReads_17 : decode cX8_traderReads 17 = .ok (.sipush 150, 3) := by decide +kernel
theorem dX8_traderReads_20 : decode cX8_traderReads 20 = .ok (.invokevirtual 365, 3) := by decide +kernel
theorem dX8_traderReads_23 : decode cX8_traderReads 23 = .ok (.tableswitch 148 0 6 #[41, 49, 58, 83, 116, 123, 140], 41) := by decide +kernel
theorem dX8_traderReads_64 : decode cX8_traderReads 64 = .ok (.aload_n 2, 1) := by decide +kernel
theorem dX8_traderReads_65 : decode cX8_traderReads 65 = .ok (.iconst 1, 1) := by decide +kernel
theorem dX8_traderReads_66 : decode cX8_traderReads 66 = .ok (.putfield 215, 3) := by decide +kernel
theorem dX8_traderReads_69 : decode cX8_traderReads 69 = .ok (.goto 102, 3) := by decide +kernel
theorem dX8_traderReads_72 : decode cX8_traderReads 72 = .ok (.aload_n 0, 1) := by decide +kernel
theorem dX8_traderReads_73 : decode cX8_traderReads 73 = .ok (.aload_n 2, 1) := by decide +kernel
theorem dX8_traderReads_74 : decode cX8_traderReads 74 = .ok (.aload_n 1, 1) := by decide +kernel
theorem dX8_traderReads_75 : decode cX8_traderReads 75 = .ok (.invokevirtual 470, 3) := by decide +kernel
theorem dX8_traderReads_78 : decode cX8_traderReads 78 = .ok (.goto 93, 3) := by decide +kernel
theorem dX8_traderReads_81 : decode cX8_traderReads 81 = .ok (.aload_n 2, 1) := by decide +kernel
theorem dX8_traderReads_82 : decode cX8_traderReads 82 = .ok (.getfield 473, 3) := by decide +kernel
theorem dX8_traderReads_85 : decode cX8_traderReads 85 = .ok (.dup, 1) := by decide +kernel
theorem dX8_traderReads_86 : decode cX8_traderReads 86 = .ok (.getfield 288, 3) := by decide +kernel
theorem dX8_traderReads_89 : decode cX8_traderReads 89 = .ok (.aload_n 1, 1) := by decide +kernel
theorem dX8_traderReads_90 : decode cX8_traderReads 90 = .ok (.bipush 32, 2) := by decide +kernel
theorem dX8_traderReads_92 : decode cX8_traderReads 92 = .ok (.invokevirtual 365, 3) := by decide +kernel
theorem dX8_traderReads_95 : decode cX8_traderReads 95 = .ok (.iadd, 1) := by decide +kernel
theorem dX8_traderReads_96 : decode cX8_traderReads 96 = .ok (.putfield 288, 3) := by decide +kernel
theorem dX8_traderReads_99 : decode cX8_traderReads 99 = .ok (.aload_n 2, 1) := by decide +kernel
theorem dX8_traderReads_100 : decode cX8_traderReads 100 = .ok (.invokevirtual 476, 3) := by decide +kernel
theorem dX8_traderReads_103 : decode cX8_traderReads 103 = .ok (.goto 68, 3) := by decide +kernel
theorem dX8_traderReads_106 : decode cX8_traderReads 106 = .ok (.aload_n 2, 1) := by decide +kernel
theorem dX8_traderReads_107 : decode cX8_traderReads 107 = .ok (.getfield 473, 3) := by decide +kernel
theorem dX8_traderReads_110 : decode cX8_traderReads 110 = .ok (.aload_n 1, 1) := by decide +kernel
theorem dX8_traderReads_111 : decode cX8_traderReads 111 = .ok (.bipush 44, 2) := by decide +kernel
theorem dX8_traderReads_113 : decode cX8_traderReads 113 = .ok (.invokevirtual 365, 3) := by decide +kernel
theorem dX8_traderReads_116 : decode cX8_traderReads 116 = .ok (.putfield 423, 3) := by decide +kernel
theorem dX8_traderReads_119 : decode cX8_traderReads 119 = .ok (.aload_n 2, 1) := by decide +kernel
theorem dX8_traderReads_120 : decode cX8_traderReads 120 = .ok (.getfield 473, 3) := by decide +kernel
theorem dX8_traderReads_123 : decode cX8_traderReads 123 = .ok (.aload_n 1, 1) := by decide +kernel
theorem dX8_traderReads_124 : decode cX8_traderReads 124 = .ok (.bipush 38, 2) := by decide +kernel
theorem dX8_traderReads_126 : decode cX8_traderReads 126 = .ok (.invokevirtual 365, 3) := by decide +kernel
theorem dX8_traderReads_129 : decode cX8_traderReads 129 = .ok (.putfield 424, 3) := by decide +kernel
theorem dX8_traderReads_132 : decode cX8_traderReads 132 = .ok (.aload_n 2, 1) := by decide +kernel
theorem dX8_traderReads_133 : decode cX8_traderReads 133 = .ok (.invokevirtual 476, 3) := by decide +kernel
theorem dX8_traderReads_136 : decode cX8_traderReads 136 = .ok (.goto 35, 3) := by decide +kernel
theorem dX8_traderReads_139 : decode cX8_traderReads 139 = .ok (.aload_n 2, 1) := by decide +kernel
theorem dX8_traderReads_140 : decode cX8_traderReads 140 = .ok (.invokevirtual 476, 3) := by decide +kernel
theorem dX8_traderReads_143 : decode cX8_traderReads 143 = .ok (.goto 28, 3) := by decide +kernel
theorem dX8_traderReads_146 : decode cX8_traderReads 146 = .ok (.aload_n 2, 1) := by decide +kernel
theorem dX8_traderReads_147 : decode cX8_traderReads 147 = .ok (.aload_n 0, 1) := by decide +kernel
theorem dX8_traderReads_148 : decode cX8_traderReads 148 = .ok (.aload_n 1, 1) := by decide +kernel
theorem dX8_traderReads_149 : decode cX8_traderReads 149 = .ok (.bipush 17, 2) := by decide +kernel
theorem dX8_traderReads_151 : decode cX8_traderReads 151 = .ok (.invokevirtual 365, 3) := by decide +kernel
theorem dX8_traderReads_154 : decode cX8_traderReads 154 = .ok (.invokevirtual 336, 3) := by decide +kernel
theorem dX8_traderReads_157 : decode cX8_traderReads 157 = .ok (.invokestatic 479, 3) := by decide +kernel
theorem dX8_traderReads_160 : decode cX8_traderReads 160 = .ok (.goto 11, 3) := by decide +kernel
theorem dX8_traderReads_163 : decode cX8_traderReads 163 = .ok (.aload_n 0, 1) := by decide +kernel
theorem dX8_traderReads_164 : decode cX8_traderReads 164 = .ok (.aload_n 1, 1) := by decide +kernel
theorem dX8_traderReads_165 : decode cX8_traderReads 165 = .ok (.invokevirtual 483, 3) := by decide +kernel
theorem dX8_traderReads_168 : decode cX8_traderReads 168 = .ok (.goto 3, 3) := by decide +kernel
theorem dX8_traderReads_171 : decode cX8_traderReads 171 = .ok (.return_, 1) := by decide +kernel
theorem dX8_traderReadsFilled_0 : decode cX8_traderReadsFilled 0 = .ok (.aload_n 2, 1) := by decide +kernel
theorem dX8_traderReadsFilled_1 : decode cX8_traderReadsFilled 1 = .ok (.sipush 382, 3) := by decide +kernel
theorem dX8_traderReadsFilled_4 : decode cX8_traderReadsFilled 4 = .ok (.invokevirtual 365, 3) := by decide +kernel
theorem dX8_traderReadsFilled_7 : decode cX8_traderReadsFilled 7 = .ok (.istore_n 3, 1) := by decide +kernel
theorem dX8_traderReadsFilled_8 : decode cX8_traderReadsFilled 8 = .ok (.iconst 0, 1) := by decide +kernel
theorem dX8_traderReadsFilled_9 : decode cX8_traderReadsFilled 9 = .ok (.istore 4, 2) := by decide +kernel
theorem dX8_traderReadsFilled_11 : decode cX8_traderReadsFilled 11 = .ok (.iload 4, 2) := by decide +kernel
theorem dX8_traderReadsFilled_13 : decode cX8_traderReadsFilled 13 = .ok (.iload_n 3, 1) := by decide +kernel
theorem dX8_traderReadsFilled_14 : decode cX8_traderReadsFilled 14 = .ok (.if_icmp .ge 73, 3) := by decide +kernel
theorem dX8_traderReadsFilled_17 : decode cX8_traderReadsFilled 17 = .ok (.iconst 5, 1) := by decide +kernel
theorem dX8_traderReadsFilled_18 : decode cX8_traderReadsFilled 18 = .ok (.iconst 4, 1) := by decide +kernel
theorem dX8_traderReadsFilled_19 : decode cX8_traderReadsFilled 19 = .ok (.iload 4, 2) := by decide +kernel
theorem dX8_traderReadsFilled_21 : decode cX8_traderReadsFilled 21 = .ok (.imul, 1) := by decide +kernel
theorem dX8_traderReadsFilled_22 : decode cX8_traderReadsFilled 22 = .ok (.iadd, 1) := by decide +kernel
theorem dX8_traderReadsFilled_23 : decode cX8_traderReadsFilled 23 = .ok (.istore 5, 2) := by decide +kernel
theorem dX8_traderReadsFilled_25 : decode cX8_traderReadsFilled 25 = .ok (.aload_n 1, 1) := by decide +kernel
theorem dX8_traderReadsFilled_26 : decode cX8_traderReadsFilled 26 = .ok (.getfield 473, 3) := by decide +kernel
theorem dX8_traderReadsFilled_29 : decode cX8_traderReadsFilled 29 = .ok (.dup, 1) := by decide +kernel
theorem dX8_traderReadsFilled_30 : decode cX8_traderReadsFilled 30 = .ok (.getfield 268, 3) := by decide +kernel
theorem dX8_traderReadsFilled_33 : decode cX8_traderReadsFilled 33 = .ok (.aload_n 2, 1) := by decide +kernel
theorem dX8_traderReadsFilled_34 : decode cX8_traderReadsFilled 34 = .ok (.iload 5, 2) := by decide +kernel
theorem dX8_traderReadsFilled_36 : decode cX8_traderReadsFilled 36 = .ok (.iconst 3, 1) := by decide +kernel
theorem dX8_traderReadsFilled_37 : decode cX8_traderReadsFilled 37 = .ok (.iadd, 1) := by decide +kernel
theorem dX8_traderReadsFilled_38 : decode cX8_traderReadsFilled 38 = .ok (.invokevirtual 180, 3) := by decide +kernel
theorem dX8_traderReadsFilled_41 : decode cX8_traderReadsFilled 41 = .ok (.iadd, 1) := by decide +kernel
theorem dX8_traderReadsFilled_42 : decode cX8_traderReadsFilled 42 = .ok (.putfield 268, 3) := by decide +kernel
theorem dX8_traderReadsFilled_45 : decode cX8_traderReadsFilled 45 = .ok (.aload_n 0, 1) := by decide +kernel
theorem dX8_traderReadsFilled_46 : decode cX8_traderReadsFilled 46 = .ok (.aload_n 2, 1) := by decide +kernel
theorem dX8_traderReadsFilled_47 : decode cX8_traderReadsFilled 47 = .ok (.iload 5, 2) := by decide +kernel
theorem dX8_traderReadsFilled_49 : decode cX8_traderReadsFilled 49 = .ok (.invokevirtual 180, 3) := by decide +kernel
theorem dX8_traderReadsFilled_52 : decode cX8_traderReadsFilled 52 = .ok (.invokevirtual 336, 3) := by decide +kernel
theorem dX8_traderReadsFilled_55 : decode cX8_traderReadsFilled 55 = .ok (.astore 6, 2) := by decide +kernel
theorem dX8_traderReadsFilled_57 : decode cX8_traderReadsFilled 57 = .ok (.aload 6, 2) := by decide +kernel
theorem dX8_traderReadsFilled_59 : decode cX8_traderReadsFilled 59 = .ok (.ifnull 22, 3) := by decide +kernel
theorem dX8_traderReadsFilled_62 : decode cX8_traderReadsFilled 62 = .ok (.aload 6, 2) := by decide +kernel
theorem dX8_traderReadsFilled_64 : decode cX8_traderReadsFilled 64 = .ok (.iconst 1, 1) := by decide +kernel
theorem dX8_traderReadsFilled_65 : decode cX8_traderReadsFilled 65 = .ok (.putfield 486, 3) := by decide +kernel
theorem dX8_traderReadsFilled_68 : decode cX8_traderReadsFilled 68 = .ok (.aload 6, 2) := by decide +kernel
theorem dX8_traderReadsFilled_70 : decode cX8_traderReadsFilled 70 = .ok (.aload_n 2, 1) := by decide +kernel
theorem dX8_traderReadsFilled_71 : decode cX8_traderReadsFilled 71 = .ok (.iload 5, 2) := by decide +kernel
theorem dX8_traderReadsFilled_73 : decode cX8_traderReadsFilled 73 = .ok (.iconst 2, 1) := by decide +kernel
theorem dX8_traderReadsFilled_74 : decode cX8_traderReadsFilled 74 = .ok (.iadd, 1) := by decide +kernel
theorem dX8_traderReadsFilled_75 : decode cX8_traderReadsFilled 75 = .ok (.invokevirtual 180, 3) := by decide +kernel
theorem dX8_traderReadsFilled_78 : decode cX8_traderReadsFilled 78 = .ok (.putfield 489, 3) := by decide +kernel
theorem dX8_traderReadsFilled_81 : decode cX8_traderReadsFilled 81 = .ok (.iinc 4 1, 3) := by decide +kernel
theorem dX8_traderReadsFilled_84 : decode cX8_traderReadsFilled 84 = .ok (.goto (-73), 3) := by decide +kernel
theorem dX8_traderReadsFilled_87 : decode cX8_traderReadsFilled 87 = .ok (.return_, 1) := by decide +kernel
theorem dX8_traderReadsBusted_0 : decode cX8_traderReadsBusted 0 = .ok (.aload_n 1, 1) := by decide +kernel
theorem dX8_traderReadsBusted_1 : decode cX8_traderReadsBusted 1 = .ok (.ifnull 26, 3) := by decide +kernel
theorem dX8_traderReadsBusted_4 : decode cX8_traderReadsBusted 4 = .ok (.aload_n 1, 1) := by decide +kernel
theorem dX8_traderReadsBusted_5 : decode cX8_traderReadsBusted 5 = .ok (.getfield 486, 3) := by decide +kernel
theorem dX8_traderReadsBusted_8 : decode cX8_traderReadsBusted 8 = .ok (.ifCond .eq 19, 3) := by decide +kernel
theorem dX8_traderReadsBusted_11 : decode cX8_traderReadsBusted 11 = .ok (.aload_n 1, 1) := by decide +kernel
theorem dX8_traderReadsBusted_12 : decode cX8_traderReadsBusted 12 = .ok (.iconst 1, 1) := by decide +kernel
theorem dX8_traderReadsBusted_13 : decode cX8_traderReadsBusted 13 = .ok (.putfield 492, 3) := by decide +kernel
theorem dX8_traderReadsBusted_16 : decode cX8_traderReadsBusted 16 = .ok (.aload_n 0, 1) := by decide +kernel
theorem dX8_traderReadsBusted_17 : decode cX8_traderReadsBusted 17 = .ok (.getfield 473, 3) := by decide +kernel
theorem dX8_traderReadsBusted_20 : decode cX8_traderReadsBusted 20 = .ok (.aload_n 1, 1) := by decide +kernel
theorem dX8_traderReadsBusted_21 : decode cX8_traderReadsBusted 21 = .ok (.getfield 259, 3) := by decide +kernel
theorem dX8_traderReadsBusted_24 : decode cX8_traderReadsBusted 24 = .ok (.invokevirtual 260, 3) := by decide +kernel
theorem dX8_traderReadsBusted_27 : decode cX8_traderReadsBusted 27 = .ok (.return_, 1) := by decide +kernel
theorem dX8_traderReadsCorrected_0 : decode cX8_traderReadsCorrected 0 = .ok (.aload_n 0, 1) := by decide +kernel
theorem dX8_traderReadsCorrected_1 : decode cX8_traderReadsCorrected 1 = .ok (.aload_n 1, 1) := by decide +kernel
theorem dX8_traderReadsCorrected_2 : decode cX8_traderReadsCorrected 2 = .ok (.bipush 17, 2) := by decide +kernel
theorem dX8_traderReadsCorrected_4 : decode cX8_traderReadsCorrected 4 = .ok (.invokevirtual 365, 3) := by decide +kernel
theorem dX8_traderReadsCorrected_7 : decode cX8_traderReadsCorrected 7 = .ok (.invokevirtual 336, 3) := by decide +kernel
theorem dX8_traderReadsCorrected_10 : decode cX8_traderReadsCorrected 10 = .ok (.astore_n 2, 1) := by decide +kernel
theorem dX8_traderReadsCorrected_11 : decode cX8_traderReadsCorrected 11 = .ok (.aload_n 2, 1) := by decide +kernel
theorem dX8_traderReadsCorrected_12 : decode cX8_traderReadsCorrected 12 = .ok (.ifnull 20, 3) := by decide +kernel
theorem dX8_traderReadsCorrected_15 : decode cX8_traderReadsCorrected 15 = .ok (.aload_n 2, 1) := by decide +kernel
theorem dX8_traderReadsCorrected_16 : decode cX8_traderReadsCorrected 16 = .ok (.getfield 486, 3) := by decide +kernel
theorem dX8_traderReadsCorrected_19 : decode cX8_traderReadsCorrected 19 = .ok (.ifCond .eq 13, 3) := by decide +kernel
theorem dX8_traderReadsCorrected_22 : decode cX8_traderReadsCorrected 22 = .ok (.aload_n 2, 1) := by decide +kernel
theorem dX8_traderReadsCorrected_23 : decode cX8_traderReadsCorrected 23 = .ok (.aload_n 1, 1) := by decide +kernel
theorem dX8_traderReadsCorrected_24 : decode cX8_traderReadsCorrected 24 = .ok (.bipush 31, 2) := by decide +kernel
theorem dX8_traderReadsCorrected_26 : decode cX8_traderReadsCorrected 26 = .ok (.invokevirtual 365, 3) := by decide +kernel
theorem dX8_traderReadsCorrected_29 : decode cX8_traderReadsCorrected 29 = .ok (.putfield 489, 3) := by decide +kernel
theorem dX8_traderReadsCorrected_32 : decode cX8_traderReadsCorrected 32 = .ok (.return_, 1) := by decide +kernel
theorem dJ5_init_d00df_0 : decode cJ5_init_d00df 0 = .ok (.aload_n 0, 1) := by decide +kernel
theorem dJ5_init_d00df_1 : decode cJ5_init_d00df 1 = .ok (.invokespecial 3, 3) := by decide +kernel
theorem dJ5_init_d00df_4 : decode cJ5_init_d00df 4 = .ok (.getstatic 18, 3) := by decide +kernel
theorem dJ5_init_d00df_7 : decode cJ5_init_d00df 7 = .ok (.ifCond .eq 18, 3) := by decide +kernel
theorem dJ5_init_d00df_10 : decode cJ5_init_d00df 10 = .ok (.aload_n 0, 1) := by decide +kernel
theorem dJ5_init_d00df_11 : decode cJ5_init_d00df 11 = .ok (.iload_n 1, 1) := by decide +kernel
theorem dJ5_init_d00df_12 : decode cJ5_init_d00df 12 = .ok (.newarray .byte, 2) := by decide +kernel
theorem dJ5_init_d00df_14 : decode cJ5_init_d00df 14 = .ok (.putfield 15, 3) := by decide +kernel
theorem dJ5_init_d00df_17 : decode cJ5_init_d00df 17 = .ok (.aload_n 0, 1) := by decide +kernel
theorem dJ5_init_d00df_18 : decode cJ5_init_d00df 18 = .ok (.iconst 0, 1) := by decide +kernel
theorem dJ5_init_d00df_19 : decode cJ5_init_d00df 19 = .ok (.putfield 22, 3) := by decide +kernel
theorem dJ5_init_d00df_22 : decode cJ5_init_d00df 22 = .ok (.goto 16, 3) := by decide +kernel
theorem dJ5_init_d00df_25 : decode cJ5_init_d00df 25 = .ok (.aload_n 0, 1) := by decide +kernel
theorem dJ5_init_d00df_26 : decode cJ5_init_d00df 26 = .ok (.iload_n 1, 1) := by decide +kernel
theorem dJ5_init_d00df_27 : decode cJ5_init_d00df 27 = .ok (.invokestatic 26, 3) := by decide +kernel
theorem dJ5_init_d00df_30 : decode cJ5_init_d00df 30 = .ok (.putfield 15, 3) := by decide +kernel
theorem dJ5_init_d00df_33 : decode cJ5_init_d00df 33 = .ok (.aload_n 0, 1) := by decide +kernel
theorem dJ5_init_d00df_34 : decode cJ5_init_d00df 34 = .ok (.iconst 1, 1) := by decide +kernel
theorem dJ5_init_d00df_35 : decode cJ5_init_d00df 35 = .ok (.putfield 22, 3) := by decide +kernel
theorem dJ5_init_d00df_38 : decode cJ5_init_d00df 38 = .ok (.return_, 1) := by decide +kernel
theorem dJ5_length_8abf5_0 : decode cJ5_length_8abf5 0 = .ok (.aload_n 0, 1) := by decide +kernel
theorem dJ5_length_8abf5_1 : decode cJ5_length_8abf5 1 = .ok (.getfield 79, 3) := by decide +kernel
theorem dJ5_length_8abf5_4 : decode cJ5_length_8abf5 4 = .ok (.ireturn, 1) := by decide +kernel
theorem dJ5_ensureCapacityInternal_d00df_0 : decode cJ5_ensureCapacityInternal_d00df 0 = .ok (.aload_n 0, 1) := by decide +kernel
theorem dJ5_ensureCapacityInternal_d00df_1 : decode cJ5_ensureCapacityInternal_d00df 1 = .ok (.getfield 15, 3) := by decide +kernel
theorem dJ5_ensureCapacityInternal_d00df_4 : decode cJ5_ensureCapacityInternal_d00df 4 = .ok (.arraylength, 1) := by decide +kernel
theorem dJ5_ensureCapacityInternal_d00df_5 : decode cJ5_ensureCapacityInternal_d00df 5 = .ok (.aload_n 0, 1) := by decide +kernel
theorem dJ5_ensureCapacityInternal_d00df_6 : decode cJ5_ensureCapacityInternal_d00df 6 = .ok (.getfield 22, 3) := by decide +kernel
theorem dJ5_ensureCapacityInternal_d00df_9 : decode cJ5_ensureCapacityInternal_d00df 9 = .ok (.ishr, 1) := by decide +kernel
theorem dJ5_ensureCapacityInternal_d00df_10 : decode cJ5_ensureCapacityInternal_d00df 10 = .ok (.istore_n 2, 1) := by decide +kernel
theorem dJ5_ensureCapacityInternal_d00df_11 : decode cJ5_ensureCapacityInternal_d00df 11 = .ok (.iload_n 1, 1) := by decide +kernel
theorem dJ5_ensureCapacityInternal_d00df_12 : decode cJ5_ensureCapacityInternal_d00df 12 = .ok (.iload_n 2, 1) := by decide +kernel
theorem dJ5_ensureCapacityInternal_d00df_13 : decode cJ5_ensureCapacityInternal_d00df 13 = .ok (.isub, 1) := by decide +kernel
theorem dJ5_ensureCapacityInternal_d00df_14 : decode cJ5_ensureCapacityInternal_d00df 14 = .ok (.ifCond .le 24, 3) := by decide +kernel
theorem dJ5_ensureCapacityInternal_d00df_17 : decode cJ5_ensureCapacityInternal_d00df 17 = .ok (.aload_n 0, 1) := by decide +kernel
theorem dJ5_ensureCapacityInternal_d00df_18 : decode cJ5_ensureCapacityInternal_d00df 18 = .ok (.aload_n 0, 1) := by decide +kernel
theorem dJ5_ensureCapacityInternal_d00df_19 : decode cJ5_ensureCapacityInternal_d00df 19 = .ok (.getfield 15, 3) := by decide +kernel
theorem dJ5_ensureCapacityInternal_d00df_22 : decode cJ5_ensureCapacityInternal_d00df 22 = .ok (.aload_n 0, 1) := by decide +kernel
theorem dJ5_ensureCapacityInternal_d00df_23 : decode cJ5_ensureCapacityInternal_d00df 23 = .ok (.iload_n 1, 1) := by decide +kernel
theorem dJ5_ensureCapacityInternal_d00df_24 : decode cJ5_ensureCapacityInternal_d00df 24 = .ok (.invokevirtual 104, 3) := by decide +kernel
theorem dJ5_ensureCapacityInternal_d00df_27 : decode cJ5_ensureCapacityInternal_d00df 27 = .ok (.aload_n 0, 1) := by decide +kernel
theorem dJ5_ensureCapacityInternal_d00df_28 : decode cJ5_ensureCapacityInternal_d00df 28 = .ok (.getfield 22, 3) := by decide +kernel
theorem dJ5_ensureCapacityInternal_d00df_31 : decode cJ5_ensureCapacityInternal_d00df 31 = .ok (.ishl, 1) := by decide +kernel
theorem dJ5_ensureCapacityInternal_d00df_32 : decode cJ5_ensureCapacityInternal_d00df 32 = .ok (.invokestatic 108, 3) := by decide +kernel
theorem dJ5_ensureCapacityInternal_d00df_35 : decode cJ5_ensureCapacityInternal_d00df 35 = .ok (.putfield 15, 3) := by decide +kernel
theorem dJ5_ensureCapacityInternal_d00df_38 : decode cJ5_ensureCapacityInternal_d00df 38 = .ok (.return_, 1) := by decide +kernel
theorem dJ5_newCapacity_0f7a4_0 : decode cJ5_newCapacity_0f7a4 0 = .ok (.aload_n 0, 1) := by decide +kernel
theorem dJ5_newCapacity_0f7a4_1 : decode cJ5_newCapacity_0f7a4 1 = .ok (.getfield 15, 3) := by decide +kernel
theorem dJ5_newCapacity_0f7a4_4 : decode cJ5_newCapacity_0f7a4 4 = .ok (.arraylength, 1) := by decide +kernel
theorem dJ5_newCapacity_0f7a4_5 : decode cJ5_newCapacity_0f7a4 5 = .ok (.istore_n 2, 1) := by decide +kernel
theorem dJ5_newCapacity_0f7a4_6 : decode cJ5_newCapacity_0f7a4 6 = .ok (.iload_n 1, 1) := by decide +kernel
theorem dJ5_newCapacity_0f7a4_7 : decode cJ5_newCapacity_0f7a4 7 = .ok (.aload_n 0, 1) := by decide +kernel
theorem dJ5_newCapacity_0f7a4_8 : decode cJ5_newCapacity_0f7a4 8 = .ok (.getfield 22, 3) := by decide +kernel
theorem dJ5_newCapacity_0f7a4_11 : decode cJ5_newCapacity_0f7a4 11 = .ok (.ishl, 1) := by decide +kernel
theorem dJ5_newCapacity_0f7a4_12 : decode cJ5_newCapacity_0f7a4 12 = .ok (.istore_n 3, 1) := by decide +kernel
theorem dJ5_newCapacity_0f7a4_13 : decode cJ5_newCapacity_0f7a4 13 = .ok (.iload_n 3, 1) := by decide +kernel
theorem dJ5_newCapacity_0f7a4_14 : decode cJ5_newCapacity_0f7a4 14 = .ok (.iload_n 2, 1) := by decide +kernel
theorem dJ5_newCapacity_0f7a4_15 : decode cJ5_newCapacity_0f7a4 15 = .ok (.isub, 1) := by decide +kernel
theorem dJ5_newCapacity_0f7a4_16 : decode cJ5_newCapacity_0f7a4 16 = .ok (.istore 4, 2) := by decide +kernel
theorem dJ5_newCapacity_0f7a4_18 : decode cJ5_newCapacity_0f7a4 18 = .ok (.iload_n 2, 1) := by decide +kernel
theorem dJ5_newCapacity_0f7a4_19 : decode cJ5_newCapacity_0f7a4 19 = .ok (.iload 4, 2) := by decide +kernel
theorem dJ5_newCapacity_0f7a4_21 : decode cJ5_newCapacity_0f7a4 21 = .ok (.iload_n 2, 1) := by decide +kernel
theorem dJ5_newCapacity_0f7a4_22 : decode cJ5_newCapacity_0f7a4 22 = .ok (.iconst 2, 1) := by decide +kernel
theorem dJ5_newCapacity_0f7a4_23 : decode cJ5_newCapacity_0f7a4 23 = .ok (.aload_n 0, 1) := by decide +kernel
theorem dJ5_newCapacity_0f7a4_24 : decode cJ5_newCapacity_0f7a4 24 = .ok (.getfield 22, 3) := by decide +kernel
theorem dJ5_newCapacity_0f7a4_27 : decode cJ5_newCapacity_0f7a4 27 = .ok (.ishl, 1) := by decide +kernel
theorem dJ5_newCapacity_0f7a4_28 : decode cJ5_newCapacity_0f7a4 28 = .ok (.iadd, 1) := by decide +kernel
theorem dJ5_newCapacity_0f7a4_29 : decode cJ5_newCapacity_0f7a4 29 = .ok (.invokestatic 114, 3) := by decide +kernel
theorem dJ5_newCapacity_0f7a4_32 : decode cJ5_newCapacity_0f7a4 32 = .ok (.istore 5, 2) := by decide +kernel
theorem dJ5_newCapacity_0f7a4_34 : decode cJ5_newCapacity_0f7a4 34 = .ok (.iload 5, 2) := by decide +kernel
theorem dJ5_newCapacity_0f7a4_36 : decode cJ5_newCapacity_0f7a4 36 = .ok (.ldc 39, 2) := by decide +kernel
theorem dJ5_newCapacity_0f7a4_38 : decode cJ5_newCapacity_0f7a4 38 = .ok (.if_icmp .ne 13, 3) := by decide +kernel
theorem dJ5_newCapacity_0f7a4_41 : decode cJ5_newCapacity_0f7a4 41 = .ok (.new 120, 3) := by decide +kernel
theorem dJ5_newCapacity_0f7a4_44 : decode cJ5_newCapacity_0f7a4 44 = .ok (.dup, 1) := by decide +kernel
theorem dJ5_newCapacity_0f7a4_45 : decode cJ5_newCapacity_0f7a4 45 = .ok (.ldc 122, 2) := by decide +kernel
theorem dJ5_newCapacity_0f7a4_47 : decode cJ5_newCapacity_0f7a4 47 = .ok (.invokespecial 124, 3) := by decide +kernel
theorem dJ5_newCapacity_0f7a4_50 : decode cJ5_newCapacity_0f7a4 50 = .ok (.athrow, 1) := by decide +kernel
theorem dJ5_newCapacity_0f7a4_51 : decode cJ5_newCapacity_0f7a4 51 = .ok (.iload 5, 2) := by decide +kernel
theorem dJ5_newCapacity_0f7a4_53 : decode cJ5_newCapacity_0f7a4 53 = .ok (.aload_n 0, 1) := by decide +kernel
theorem dJ5_newCapacity_0f7a4_54 : decode cJ5_newCapacity_0f7a4 54 = .ok (.getfield 22, 3) := by decide +kernel
theorem dJ5_newCapacity_0f7a4_57 : decode cJ5_newCapacity_0f7a4 57 = .ok (.ishr, 1) := by decide +kernel
theorem dJ5_newCapacity_0f7a4_58 : decode cJ5_newCapacity_0f7a4 58 = .ok (.ireturn, 1) := by decide +kernel
theorem dJ5_inflate_da8c8_0 : decode cJ5_inflate_da8c8 0 = .ok (.aload_n 0, 1) := by decide +kernel
theorem dJ5_inflate_da8c8_1 : decode cJ5_inflate_da8c8 1 = .ok (.invokevirtual 83, 3) := by decide +kernel
theorem dJ5_inflate_da8c8_4 : decode cJ5_inflate_da8c8 4 = .ok (.ifCond .ne 4, 3) := by decide +kernel
theorem dJ5_inflate_da8c8_7 : decode cJ5_inflate_da8c8 7 = .ok (.return_, 1) := by decide +kernel
theorem dJ5_inflate_da8c8_8 : decode cJ5_inflate_da8c8 8 = .ok (.aload_n 0, 1) := by decide +kernel
theorem dJ5_inflate_da8c8_9 : decode cJ5_inflate_da8c8 9 = .ok (.getfield 15, 3) := by decide +kernel
theorem dJ5_inflate_da8c8_12 : decode cJ5_inflate_da8c8 12 = .ok (.arraylength, 1) := by decide +kernel
theorem dJ5_inflate_da8c8_13 : decode cJ5_inflate_da8c8 13 = .ok (.invokestatic 26, 3) := by decide +kernel
theorem dJ5_inflate_da8c8_16 : decode cJ5_inflate_da8c8 16 = .ok (.astore_n 1, 1) := by decide +kernel
theorem dJ5_inflate_da8c8_17 : decode cJ5_inflate_da8c8 17 = .ok (.aload_n 0, 1) := by decide +kernel
theorem dJ5_inflate_da8c8_18 : decode cJ5_inflate_da8c8 18 = .ok (.getfield 15, 3) := by decide +kernel
theorem dJ5_inflate_da8c8_21 : decode cJ5_inflate_da8c8 21 = .ok (.iconst 0, 1) := by decide +kernel
theorem dJ5_inflate_da8c8_22 : decode cJ5_inflate_da8c8 22 = .ok (.aload_n 1, 1) := by decide +kernel
theorem dJ5_inflate_da8c8_23 : decode cJ5_inflate_da8c8 23 = .ok (.iconst 0, 1) := by decide +kernel
theorem dJ5_inflate_da8c8_24 : decode cJ5_inflate_da8c8 24 = .ok (.aload_n 0, 1) := by decide +kernel
theorem dJ5_inflate_da8c8_25 : decode cJ5_inflate_da8c8 25 = .ok (.getfield 79, 3) := by decide +kernel
theorem dJ5_inflate_da8c8_28 : decode cJ5_inflate_da8c8 28 = .ok (.invokestatic 125, 3) := by decide +kernel
theorem dJ5_inflate_da8c8_31 : decode cJ5_inflate_da8c8 31 = .ok (.aload_n 0, 1) := by decide +kernel
theorem dJ5_inflate_da8c8_32 : decode cJ5_inflate_da8c8 32 = .ok (.aload_n 1, 1) := by decide +kernel
theorem dJ5_inflate_da8c8_33 : decode cJ5_inflate_da8c8 33 = .ok (.putfield 15, 3) := by decide +kernel
theorem dJ5_inflate_da8c8_36 : decode cJ5_inflate_da8c8 36 = .ok (.aload_n 0, 1) := by decide +kernel
theorem dJ5_inflate_da8c8_37 : decode cJ5_inflate_da8c8 37 = .ok (.iconst 1, 1) := by decide +kernel
theorem dJ5_inflate_da8c8_38 : decode cJ5_inflate_da8c8 38 = .ok (.putfield 22, 3) := by decide +kernel
theorem dJ5_inflate_da8c8_41 : decode cJ5_inflate_da8c8 41 = .ok (.return_, 1) := by decide +kernel
theorem dJ5_append_cf1ce_0 : decode cJ5_append_cf1ce 0 = .ok (.aload_n 1, 1) := by decide +kernel
theorem dJ5_append_cf1ce_1 : decode cJ5_append_cf1ce 1 = .ok (.ifnonnull 8, 3) := by decide +kernel
theorem dJ5_append_cf1ce_4 : decode cJ5_append_cf1ce 4 = .ok (.aload_n 0, 1) := by decide +kernel
theorem dJ5_append_cf1ce_5 : decode cJ5_append_cf1ce 5 = .ok (.invokevirtual 204, 3) := by decide +kernel
theorem dJ5_append_cf1ce_8 : decode cJ5_append_cf1ce 8 = .ok (.areturn, 1) := by decide +kernel
theorem dJ5_append_cf1ce_9 : decode cJ5_append_cf1ce 9 = .ok (.aload_n 1, 1) := by decide +kernel
theorem dJ5_append_cf1ce_10 : decode cJ5_append_cf1ce 10 = .ok (.invokevirtual 32, 3) := by decide +kernel
theorem dJ5_append_cf1ce_13 : decode cJ5_append_cf1ce 13 = .ok (.istore_n 2, 1) := by decide +kernel
theorem dJ5_append_cf1ce_14 : decode cJ5_append_cf1ce 14 = .ok (.aload_n 0, 1) := by decide +kernel
theorem dJ5_append_cf1ce_15 : decode cJ5_append_cf1ce 15 = .ok (.aload_n 0, 1) := by decide +kernel
theorem dJ5_append_cf1ce_16 : decode cJ5_append_cf1ce 16 = .ok (.getfield 79, 3) := by decide +kernel
theorem dJ5_append_cf1ce_19 : decode cJ5_append_cf1ce 19 = .ok (.iload_n 2, 1) := by decide +kernel
theorem dJ5_append_cf1ce_20 : decode cJ5_append_cf1ce 20 = .ok (.iadd, 1) := by decide +kernel
theorem dJ5_append_cf1ce_21 : decode cJ5_append_cf1ce 21 = .ok (.invokevirtual 100, 3) := by decide +kernel
theorem dJ5_append_cf1ce_24 : decode cJ5_append_cf1ce 24 = .ok (.aload_n 0, 1) := by decide +kernel
theorem dJ5_append_cf1ce_25 : decode cJ5_append_cf1ce 25 = .ok (.aload_n 0, 1) := by decide +kernel
theorem dJ5_append_cf1ce_26 : decode cJ5_append_cf1ce 26 = .ok (.getfield 79, 3) := by decide +kernel
theorem dJ5_append_cf1ce_29 : decode cJ5_append_cf1ce 29 = .ok (.aload_n 1, 1) := by decide +kernel
theorem dJ5_append_cf1ce_30 : decode cJ5_append_cf1ce 30 = .ok (.invokevirtual 208, 3) := by decide +kernel
theorem dJ5_append_cf1ce_33 : decode cJ5_append_cf1ce 33 = .ok (.aload_n 0, 1) := by decide +kernel
theorem dJ5_append_cf1ce_34 : decode cJ5_append_cf1ce 34 = .ok (.dup, 1) := by decide +kernel
theorem dJ5_append_cf1ce_35 : decode cJ5_append_cf1ce 35 = .ok (.getfield 79, 3) := by decide +kernel
theorem dJ5_append_cf1ce_38 : decode cJ5_append_cf1ce 38 = .ok (.iload_n 2, 1) := by decide +kernel
theorem dJ5_append_cf1ce_39 : decode cJ5_append_cf1ce 39 = .ok (.iadd, 1) := by decide +kernel
theorem dJ5_append_cf1ce_40 : decode cJ5_append_cf1ce 40 = .ok (.putfield 79, 3) := by decide +kernel
theorem dJ5_append_cf1ce_43 : decode cJ5_append_cf1ce 43 = .ok (.aload_n 0, 1) := by decide +kernel
theorem dJ5_append_cf1ce_44 : decode cJ5_append_cf1ce 44 = .ok (.areturn, 1) := by decide +kernel
theorem dJ5_appendNull_278bc_0 : decode cJ5_appendNull_278bc 0 = .ok (.aload_n 0, 1) := by decide +kernel
theorem dJ5_appendNull_278bc_1 : decode cJ5_appendNull_278bc 1 = .ok (.aload_n 0, 1) := by decide +kernel
theorem dJ5_appendNull_278bc_2 : decode cJ5_appendNull_278bc 2 = .ok (.getfield 79, 3) := by decide +kernel
theorem dJ5_appendNull_278bc_5 : decode cJ5_appendNull_278bc 5 = .ok (.iconst 4, 1) := by decide +kernel
theorem dJ5_appendNull_278bc_6 : decode cJ5_appendNull_278bc 6 = .ok (.iadd, 1) := by decide +kernel
theorem dJ5_appendNull_278bc_7 : decode cJ5_appendNull_278bc 7 = .ok (.invokevirtual 100, 3) := by decide +kernel
theorem dJ5_appendNull_278bc_10 : decode cJ5_appendNull_278bc 10 = .ok (.aload_n 0, 1) := by decide +kernel
theorem dJ5_appendNull_278bc_11 : decode cJ5_appendNull_278bc 11 = .ok (.getfield 79, 3) := by decide +kernel
theorem dJ5_appendNull_278bc_14 : decode cJ5_appendNull_278bc 14 = .ok (.istore_n 1, 1) := by decide +kernel
theorem dJ5_appendNull_278bc_15 : decode cJ5_appendNull_278bc 15 = .ok (.aload_n 0, 1) := by decide +kernel
theorem dJ5_appendNull_278bc_16 : decode cJ5_appendNull_278bc 16 = .ok (.getfield 15, 3) := by decide +kernel
theorem dJ5_appendNull_278bc_19 : decode cJ5_appendNull_278bc 19 = .ok (.astore_n 2, 1) := by decide +kernel
theorem dJ5_appendNull_278bc_20 : decode cJ5_appendNull_278bc 20 = .ok (.aload_n 0, 1) := by decide +kernel
theorem dJ5_appendNull_278bc_21 : decode cJ5_appendNull_278bc 21 = .ok (.invokevirtual 83, 3) := by decide +kernel
theorem dJ5_appendNull_278bc_24 : decode cJ5_appendNull_278bc 24 = .ok (.ifCond .eq 38, 3) := by decide +kernel
theorem dJ5_appendNull_278bc_27 : decode cJ5_appendNull_278bc 27 = .ok (.aload_n 2, 1) := by decide +kernel
theorem dJ5_appendNull_278bc_28 : decode cJ5_appendNull_278bc 28 = .ok (.iload_n 1, 1) := by decide +kernel
theorem dJ5_appendNull_278bc_29 : decode cJ5_appendNull_278bc 29 = .ok (.iinc 1 1, 3) := by decide +kernel
theorem dJ5_appendNull_278bc_32 : decode cJ5_appendNull_278bc 32 = .ok (.bipush 110, 2) := by decide +kernel
theorem dJ5_appendNull_278bc_34 : decode cJ5_appendNull_278bc 34 = .ok (.bastore, 1) := by decide +kernel
theorem dJ5_appendNull_278bc_35 : decode cJ5_appendNull_278bc 35 = .ok (.aload_n 2, 1) := by decide +kernel
theorem dJ5_appendNull_278bc_36 : decode cJ5_appendNull_278bc 36 = .ok (.iload_n 1, 1) := by decide +kernel
theorem dJ5_appendNull_278bc_37 : decode cJ5_appendNull_278bc 37 = .ok (.iinc 1 1, 3) := by decide +kernel
theorem dJ5_appendNull_278bc_40 : decode cJ5_appendNull_278bc 40 = .ok (.bipush 117, 2) := by decide +kernel
theorem dJ5_appendNull_278bc_42 : decode cJ5_appendNull_278bc 42 = .ok (.bastore, 1) := by decide +kernel
theorem dJ5_appendNull_278bc_43 : decode cJ5_appendNull_278bc 43 = .ok (.aload_n 2, 1) := by decide +kernel
theorem dJ5_appendNull_278bc_44 : decode cJ5_appendNull_278bc 44 = .ok (.iload_n 1, 1) := by decide +kernel
theorem dJ5_appendNull_278bc_45 : decode cJ5_appendNull_278bc 45 = .ok (.iinc 1 1, 3) := by decide +kernel
theorem dJ5_appendNull_278bc_48 : decode cJ5_appendNull_278bc 48 = .ok (.bipush 108, 2) := by decide +kernel
theorem dJ5_appendNull_278bc_50 : decode cJ5_appendNull_278bc 50 = .ok (.bastore, 1) := by decide +kernel
theorem dJ5_appendNull_278bc_51 : decode cJ5_appendNull_278bc 51 = .ok (.aload_n 2, 1) := by decide +kernel
theorem dJ5_appendNull_278bc_52 : decode cJ5_appendNull_278bc 52 = .ok (.iload_n 1, 1) := by decide +kernel
theorem dJ5_appendNull_278bc_53 : decode cJ5_appendNull_278bc 53 = .ok (.iinc 1 1, 3) := by decide +kernel
theorem dJ5_appendNull_278bc_56 : decode cJ5_appendNull_278bc 56 = .ok (.bipush 108, 2) := by decide +kernel
theorem dJ5_appendNull_278bc_58 : decode cJ5_appendNull_278bc 58 = .ok (.bastore, 1) := by decide +kernel
theorem dJ5_appendNull_278bc_59 : decode cJ5_appendNull_278bc 59 = .ok (.goto 17, 3) := by decide +kernel
theorem dJ5_appendNull_278bc_62 : decode cJ5_appendNull_278bc 62 = .ok (.aload_n 2, 1) := by decide +kernel
theorem dJ5_appendNull_278bc_63 : decode cJ5_appendNull_278bc 63 = .ok (.iload_n 1, 1) := by decide +kernel
theorem dJ5_appendNull_278bc_64 : decode cJ5_appendNull_278bc 64 = .ok (.bipush 110, 2) := by decide +kernel
theorem dJ5_appendNull_278bc_66 : decode cJ5_appendNull_278bc 66 = .ok (.bipush 117, 2) := by decide +kernel
theorem dJ5_appendNull_278bc_68 : decode cJ5_appendNull_278bc 68 = .ok (.bipush 108, 2) := by decide +kernel
theorem dJ5_appendNull_278bc_70 : decode cJ5_appendNull_278bc 70 = .ok (.bipush 108, 2) := by decide +kernel
theorem dJ5_appendNull_278bc_72 : decode cJ5_appendNull_278bc 72 = .ok (.invokestatic 226, 3) := by decide +kernel
theorem dJ5_appendNull_278bc_75 : decode cJ5_appendNull_278bc 75 = .ok (.istore_n 1, 1) := by decide +kernel
theorem dJ5_appendNull_278bc_76 : decode cJ5_appendNull_278bc 76 = .ok (.aload_n 0, 1) := by decide +kernel
theorem dJ5_appendNull_278bc_77 : decode cJ5_appendNull_278bc 77 = .ok (.iload_n 1, 1) := by decide +kernel
theorem dJ5_appendNull_278bc_78 : decode cJ5_appendNull_278bc 78 = .ok (.putfield 79, 3) := by decide +kernel
theorem dJ5_appendNull_278bc_81 : decode cJ5_appendNull_278bc 81 = .ok (.aload_n 0, 1) := by decide +kernel
theorem dJ5_appendNull_278bc_82 : decode cJ5_appendNull_278bc 82 = .ok (.areturn, 1) := by decide +kernel
theorem dJ5_append_c97b9_0 : decode cJ5_append_c97b9 0 = .ok (.aload_n 0, 1) := by decide +kernel
theorem dJ5_append_c97b9_1 : decode cJ5_append_c97b9 1 = .ok (.getfield 79, 3) := by decide +kernel
theorem dJ5_append_c97b9_4 : decode cJ5_append_c97b9 4 = .ok (.istore_n 2, 1) := by decide +kernel
theorem dJ5_append_c97b9_5 : decode cJ5_append_c97b9 5 = .ok (.iload_n 2, 1) := by decide +kernel
theorem dJ5_append_c97b9_6 : decode cJ5_append_c97b9 6 = .ok (.iload_n 1, 1) := by decide +kernel
theorem dJ5_append_c97b9_7 : decode cJ5_append_c97b9 7 = .ok (.invokestatic 245, 3) := by decide +kernel
theorem dJ5_append_c97b9_10 : decode cJ5_append_c97b9 10 = .ok (.iadd, 1) := by decide +kernel
theorem dJ5_append_c97b9_11 : decode cJ5_append_c97b9 11 = .ok (.istore_n 3, 1) := by decide +kernel
theorem dJ5_append_c97b9_12 : decode cJ5_append_c97b9 12 = .ok (.aload_n 0, 1) := by decide +kernel
theorem dJ5_append_c97b9_13 : decode cJ5_append_c97b9 13 = .ok (.iload_n 3, 1) := by decide +kernel
theorem dJ5_append_c97b9_14 : decode cJ5_append_c97b9 14 = .ok (.invokevirtual 100, 3) := by decide +kernel
theorem dJ5_append_c97b9_17 : decode cJ5_append_c97b9 17 = .ok (.aload_n 0, 1) := by decide +kernel
theorem dJ5_append_c97b9_18 : decode cJ5_append_c97b9 18 = .ok (.invokevirtual 83, 3) := by decide +kernel
theorem dJ5_append_c97b9_21 : decode cJ5_append_c97b9 21 = .ok (.ifCond .eq 16, 3) := by decide +kernel
theorem dJ5_append_c97b9_24 : decode cJ5_append_c97b9 24 = .ok (.iload_n 1, 1) := by decide +kernel
theorem dJ5_append_c97b9_25 : decode cJ5_append_c97b9 25 = .ok (.iload_n 3, 1) := by decide +kernel
theorem dJ5_append_c97b9_26 : decode cJ5_append_c97b9 26 = .ok (.aload_n 0, 1) := by decide +kernel
theorem dJ5_append_c97b9_27 : decode cJ5_append_c97b9 27 = .ok (.getfield 15, 3) := by decide +kernel
theorem dJ5_append_c97b9_30 : decode cJ5_append_c97b9 30 = .ok (.invokestatic 248, 3) := by decide +kernel
theorem dJ5_append_c97b9_33 : decode cJ5_append_c97b9 33 = .ok (.pop, 1) := by decide +kernel
theorem dJ5_append_c97b9_34 : decode cJ5_append_c97b9 34 = .ok (.goto 14, 3) := by decide +kernel
theorem dJ5_append_c97b9_37 : decode cJ5_append_c97b9 37 = .ok (.iload_n 1, 1) := by decide +kernel
theorem dJ5_append_c97b9_38 : decode cJ5_append_c97b9 38 = .ok (.iload_n 2, 1) := by decide +kernel
theorem dJ5_append_c97b9_39 : decode cJ5_append_c97b9 39 = .ok (.iload_n 3, 1) := by decide +kernel
theorem dJ5_append_c97b9_40 : decode cJ5_append_c97b9 40 = .ok (.aload_n 0, 1) := by decide +kernel
theorem dJ5_append_c97b9_41 : decode cJ5_append_c97b9 41 = .ok (.getfield 15, 3) := by decide +kernel
theorem dJ5_append_c97b9_44 : decode cJ5_append_c97b9 44 = .ok (.invokestatic 251, 3) := by decide +kernel
theorem dJ5_append_c97b9_47 : decode cJ5_append_c97b9 47 = .ok (.pop, 1) := by decide +kernel
theorem dJ5_append_c97b9_48 : decode cJ5_append_c97b9 48 = .ok (.aload_n 0, 1) := by decide +kernel
theorem dJ5_append_c97b9_49 : decode cJ5_append_c97b9 49 = .ok (.iload_n 3, 1) := by decide +kernel
theorem dJ5_append_c97b9_50 : decode cJ5_append_c97b9 50 = .ok (.putfield 79, 3) := by decide +kernel
theorem dJ5_append_c97b9_53 : decode cJ5_append_c97b9 53 = .ok (.aload_n 0, 1) := by decide +kernel
theorem dJ5_append_c97b9_54 : decode cJ5_append_c97b9 54 = .ok (.areturn, 1) := by decide +kernel
theorem dJ5_getValue_6d5f1_0 : decode cJ5_getValue_6d5f1 0 = .ok (.aload_n 0, 1) := by decide +kernel
theorem dJ5_getValue_6d5f1_1 : decode cJ5_getValue_6d5f1 1 = .ok (.getfield 15, 3) := by decide +kernel
theorem dJ5_getValue_6d5f1_4 : decode cJ5_getValue_6d5f1 4 = .ok (.areturn, 1) := by decide +kernel
theorem dJ5_isLatin1_aae02_0 : decode cJ5_isLatin1_aae02 0 = .ok (.getstatic 18, 3) := by decide +kernel
theorem dJ5_isLatin1_aae02_3 : decode cJ5_isLatin1_aae02 3 = .ok (.ifCond .eq 14, 3) := by decide +kernel
theorem dJ5_isLatin1_aae02_6 : decode cJ5_isLatin1_aae02 6 = .ok (.aload_n 0, 1) := by decide +kernel
theorem dJ5_isLatin1_aae02_7 : decode cJ5_isLatin1_aae02 7 = .ok (.getfield 22, 3) := by decide +kernel
theorem dJ5_isLatin1_aae02_10 : decode cJ5_isLatin1_aae02 10 = .ok (.ifCond .ne 7, 3) := by decide +kernel
theorem dJ5_isLatin1_aae02_13 : decode cJ5_isLatin1_aae02 13 = .ok (.iconst 1, 1) := by decide +kernel
theorem dJ5_isLatin1_aae02_14 : decode cJ5_isLatin1_aae02 14 = .ok (.goto 4, 3) := by decide +kernel
theorem dJ5_isLatin1_aae02_17 : decode cJ5_isLatin1_aae02 17 = .ok (.iconst 0, 1) := by decide +kernel
theorem dJ5_isLatin1_aae02_18 : decode cJ5_isLatin1_aae02 18 = .ok (.ireturn, 1) := by decide +kernel
theorem dJ5_inflateIfNeededFor_a7421_0 : decode cJ5_inflateIfNeededFor_a7421 0 = .ok (.getstatic 18, 3) := by decide +kernel
theorem dJ5_inflateIfNeededFor_a7421_3 : decode cJ5_inflateIfNeededFor_a7421 3 = .ok (.ifCond .eq 18, 3) := by decide +kernel
theorem dJ5_inflateIfNeededFor_a7421_6 : decode cJ5_inflateIfNeededFor_a7421 6 = .ok (.aload_n 0, 1) := by decide +kernel
theorem dJ5_inflateIfNeededFor_a7421_7 : decode cJ5_inflateIfNeededFor_a7421 7 = .ok (.getfield 22, 3) := by decide +kernel
theorem dJ5_inflateIfNeededFor_a7421_10 : decode cJ5_inflateIfNeededFor_a7421 10 = .ok (.aload_n 1, 1) := by decide +kernel
theorem dJ5_inflateIfNeededFor_a7421_11 : decode cJ5_inflateIfNeededFor_a7421 11 = .ok (.invokevirtual 40, 3) := by decide +kernel
theorem dJ5_inflateIfNeededFor_a7421_14 : decode cJ5_inflateIfNeededFor_a7421 14 = .ok (.if_icmp .eq 7, 3) := by decide +kernel
theorem dJ5_inflateIfNeededFor_a7421_17 : decode cJ5_inflateIfNeededFor_a7421 17 = .ok (.aload_n 0, 1) := by decide +kernel
theorem dJ5_inflateIfNeededFor_a7421_18 : decode cJ5_inflateIfNeededFor_a7421 18 = .ok (.invokevirtual 195, 3) := by decide +kernel
theorem dJ5_inflateIfNeededFor_a7421_21 : decode cJ5_inflateIfNeededFor_a7421 21 = .ok (.return_, 1) := by decide +kernel
theorem dJ5_putStringAt_47b60_0 : decode cJ5_putStringAt_47b60 0 = .ok (.aload_n 0, 1) := by decide +kernel
theorem dJ5_putStringAt_47b60_1 : decode cJ5_putStringAt_47b60 1 = .ok (.aload_n 2, 1) := by decide +kernel
theorem dJ5_putStringAt_47b60_2 : decode cJ5_putStringAt_47b60 2 = .ok (.invokevirtual 397, 3) := by decide +kernel
theorem dJ5_putStringAt_47b60_5 : decode cJ5_putStringAt_47b60 5 = .ok (.aload_n 2, 1) := by decide +kernel
theorem dJ5_putStringAt_47b60_6 : decode cJ5_putStringAt_47b60 6 = .ok (.aload_n 0, 1) := by decide +kernel
theorem dJ5_putStringAt_47b60_7 : decode cJ5_putStringAt_47b60 7 = .ok (.getfield 15, 3) := by decide +kernel
theorem dJ5_putStringAt_47b60_10 : decode cJ5_putStringAt_47b60 10 = .ok (.iload_n 1, 1) := by decide +kernel
theorem dJ5_putStringAt_47b60_11 : decode cJ5_putStringAt_47b60 11 = .ok (.aload_n 0, 1) := by decide +kernel
theorem dJ5_putStringAt_47b60_12 : decode cJ5_putStringAt_47b60 12 = .ok (.getfield 22, 3) := by decide +kernel
theorem dJ5_putStringAt_47b60_15 : decode cJ5_putStringAt_47b60 15 = .ok (.invokevirtual 399, 3) := by decide +kernel
theorem dJ5_putStringAt_47b60_18 : decode cJ5_putStringAt_47b60 18 = .ok (.return_, 1) := by decide +kernel
theorem dJ6_getChars_ba4f3_0 : decode cJ6_getChars_ba4f3 0 = .ok (.iload_n 1, 1) := by decide +kernel
theorem dJ6_getChars_ba4f3_1 : decode cJ6_getChars_ba4f3 1 = .ok (.istore 5, 2) := by decide +kernel
theorem dJ6_getChars_ba4f3_3 : decode cJ6_getChars_ba4f3 3 = .ok (.iload_n 0, 1) := by decide +kernel
theorem dJ6_getChars_ba4f3_4 : decode cJ6_getChars_ba4f3 4 = .ok (.ifCond .ge 7, 3) := by decide +kernel
theorem dJ6_getChars_ba4f3_7 : decode cJ6_getChars_ba4f3 7 = .ok (.iconst 1, 1) := by decide +kernel
theorem dJ6_getChars_ba4f3_8 : decode cJ6_getChars_ba4f3 8 = .ok (.goto 4, 3) := by decide +kernel
theorem dJ6_getChars_ba4f3_11 : decode cJ6_getChars_ba4f3 11 = .ok (.iconst 0, 1) := by decide +kernel
theorem dJ6_getChars_ba4f3_12 : decode cJ6_getChars_ba4f3 12 = .ok (.istore 6, 2) := by decide +kernel
theorem dJ6_getChars_ba4f3_14 : decode cJ6_getChars_ba4f3 14 = .ok (.iload 6, 2) := by decide +kernel
theorem dJ6_getChars_ba4f3_16 : decode cJ6_getChars_ba4f3 16 = .ok (.ifCond .ne 6, 3) := by decide +kernel
theorem dJ6_getChars_ba4f3_19 : decode cJ6_getChars_ba4f3 19 = .ok (.iload_n 0, 1) := by decide +kernel
theorem dJ6_getChars_ba4f3_20 : decode cJ6_getChars_ba4f3 20 = .ok (.ineg, 1) := by decide +kernel
theorem dJ6_getChars_ba4f3_21 : decode cJ6_getChars_ba4f3 21 = .ok (.istore_n 0, 1) := by decide +kernel
theorem dJ6_getChars_ba4f3_22 : decode cJ6_getChars_ba4f3 22 = .ok (.iload_n 0, 1) := by decide +kernel
theorem dJ6_getChars_ba4f3_23 : decode cJ6_getChars_ba4f3 23 = .ok (.bipush (-100), 2) := by decide +kernel
theorem dJ6_getChars_ba4f3_25 : decode cJ6_getChars_ba4f3 25 = .ok (.if_icmp .gt 47, 3) := by decide +kernel
theorem dJ6_getChars_ba4f3_28 : decode cJ6_getChars_ba4f3 28 = .ok (.iload_n 0, 1) := by decide +kernel
theorem dJ6_getChars_ba4f3_29 : decode cJ6_getChars_ba4f3 29 = .ok (.bipush 100, 2) := by decide +kernel
theorem dJ6_getChars_ba4f3_31 : decode cJ6_getChars_ba4f3 31 = .ok (.idiv, 1) := by decide +kernel
theorem dJ6_getChars_ba4f3_32 : decode cJ6_getChars_ba4f3 32 = .ok (.istore_n 3, 1) := by decide +kernel
theorem dJ6_getChars_ba4f3_33 : decode cJ6_getChars_ba4f3 33 = .ok (.iload_n 3, 1) := by decide +kernel
theorem dJ6_getChars_ba4f3_34 : decode cJ6_getChars_ba4f3 34 = .ok (.bipush 100, 2) := by decide +kernel
theorem dJ6_getChars_ba4f3_36 : decode cJ6_getChars_ba4f3 36 = .ok (.imul, 1) := by decide +kernel
theorem dJ6_getChars_ba4f3_37 : decode cJ6_getChars_ba4f3 37 = .ok (.iload_n 0, 1) := by decide +kernel
theorem dJ6_getChars_ba4f3_38 : decode cJ6_getChars_ba4f3 38 = .ok (.isub, 1) := by decide +kernel
theorem dJ6_getChars_ba4f3_39 : decode cJ6_getChars_ba4f3 39 = .ok (.istore 4, 2) := by decide +kernel
theorem dJ6_getChars_ba4f3_41 : decode cJ6_getChars_ba4f3 41 = .ok (.iload_n 3, 1) := by decide +kernel
theorem dJ6_getChars_ba4f3_42 : decode cJ6_getChars_ba4f3 42 = .ok (.istore_n 0, 1) := by decide +kernel
theorem dJ6_getChars_ba4f3_43 : decode cJ6_getChars_ba4f3 43 = .ok (.aload_n 2, 1) := by decide +kernel
theorem dJ6_getChars_ba4f3_44 : decode cJ6_getChars_ba4f3 44 = .ok (.iinc 5 (-1), 3) := by decide +kernel
theorem dJ6_getChars_ba4f3_47 : decode cJ6_getChars_ba4f3 47 = .ok (.iload 5, 2) := by decide +kernel
theorem dJ6_getChars_ba4f3_49 : decode cJ6_getChars_ba4f3 49 = .ok (.getstatic 83, 3) := by decide +kernel
theorem dJ6_getChars_ba4f3_52 : decode cJ6_getChars_ba4f3 52 = .ok (.iload 4, 2) := by decide +kernel
theorem dJ6_getChars_ba4f3_54 : decode cJ6_getChars_ba4f3 54 = .ok (.baload, 1) := by decide +kernel
theorem dJ6_getChars_ba4f3_55 : decode cJ6_getChars_ba4f3 55 = .ok (.bastore, 1) := by decide +kernel
theorem dJ6_getChars_ba4f3_56 : decode cJ6_getChars_ba4f3 56 = .ok (.aload_n 2, 1) := by decide +kernel
theorem dJ6_getChars_ba4f3_57 : decode cJ6_getChars_ba4f3 57 = .ok (.iinc 5 (-1), 3) := by decide +kernel
theorem dJ6_getChars_ba4f3_60 : decode cJ6_getChars_ba4f3 60 = .ok (.iload 5, 2) := by decide +kernel
theorem dJ6_getChars_ba4f3_62 : decode cJ6_getChars_ba4f3 62 = .ok (.getstatic 87, 3) := by decide +kernel
theorem dJ6_getChars_ba4f3_65 : decode cJ6_getChars_ba4f3 65 = .ok (.iload 4, 2) := by decide +kernel
theorem dJ6_getChars_ba4f3_67 : decode cJ6_getChars_ba4f3 67 = .ok (.baload, 1) := by decide +kernel
theorem dJ6_getChars_ba4f3_68 : decode cJ6_getChars_ba4f3 68 = .ok (.bastore, 1) := by decide +kernel
theorem dJ6_getChars_ba4f3_69 : decode cJ6_getChars_ba4f3 69 = .ok (.goto (-47), 3) := by decide +kernel
theorem dJ6_getChars_ba4f3_72 : decode cJ6_getChars_ba4f3 72 = .ok (.aload_n 2, 1) := by decide +kernel
theorem dJ6_getChars_ba4f3_73 : decode cJ6_getChars_ba4f3 73 = .ok (.iinc 5 (-1), 3) := by decide +kernel
theorem dJ6_getChars_ba4f3_76 : decode cJ6_getChars_ba4f3 76 = .ok (.iload 5, 2) := by decide +kernel
theorem dJ6_getChars_ba4f3_78 : decode cJ6_getChars_ba4f3 78 = .ok (.getstatic 83, 3) := by decide +kernel
theorem dJ6_getChars_ba4f3_81 : decode cJ6_getChars_ba4f3 81 = .ok (.iload_n 0, 1) := by decide +kernel
theorem dJ6_getChars_ba4f3_82 : decode cJ6_getChars_ba4f3 82 = .ok (.ineg, 1) := by decide +kernel
theorem dJ6_getChars_ba4f3_83 : decode cJ6_getChars_ba4f3 83 = .ok (.baload, 1) := by decide +kernel
theorem dJ6_getChars_ba4f3_84 : decode cJ6_getChars_ba4f3 84 = .ok (.bastore, 1) := by decide +kernel
theorem dJ6_getChars_ba4f3_85 : decode cJ6_getChars_ba4f3 85 = .ok (.iload_n 0, 1) := by decide +kernel
theorem dJ6_getChars_ba4f3_86 : decode cJ6_getChars_ba4f3 86 = .ok (.bipush (-9), 2) := by decide +kernel
theorem dJ6_getChars_ba4f3_88 : decode cJ6_getChars_ba4f3 88 = .ok (.if_icmp .ge 16, 3) := by decide +kernel
theorem dJ6_getChars_ba4f3_91 : decode cJ6_getChars_ba4f3 91 = .ok (.aload_n 2, 1) := by decide +kernel
theorem dJ6_getChars_ba4f3_92 : decode cJ6_getChars_ba4f3 92 = .ok (.iinc 5 (-1), 3) := by decide +kernel
theorem dJ6_getChars_ba4f3_95 : decode cJ6_getChars_ba4f3 95 = .ok (.iload 5, 2) := by decide +kernel
theorem dJ6_getChars_ba4f3_97 : decode cJ6_getChars_ba4f3 97 = .ok (.getstatic 87, 3) := by decide +kernel
theorem dJ6_getChars_ba4f3_100 : decode cJ6_getChars_ba4f3 100 = .ok (.iload_n 0, 1) := by decide +kernel
theorem dJ6_getChars_ba4f3_101 : decode cJ6_getChars_ba4f3 101 = .ok (.ineg, 1) := by decide +kernel
theorem dJ6_getChars_ba4f3_102 : decode cJ6_getChars_ba4f3 102 = .ok (.baload, 1) := by decide +kernel
theorem dJ6_getChars_ba4f3_103 : decode cJ6_getChars_ba4f3 103 = .ok (.bastore, 1) := by decide +kernel
theorem dJ6_getChars_ba4f3_104 : decode cJ6_getChars_ba4f3 104 = .ok (.iload 6, 2) := by decide +kernel
theorem dJ6_getChars_ba4f3_106 : decode cJ6_getChars_ba4f3 106 = .ok (.ifCond .eq 12, 3) := by decide +kernel
theorem dJ6_getChars_ba4f3_109 : decode cJ6_getChars_ba4f3 109 = .ok (.aload_n 2, 1) := by decide +kernel
theorem dJ6_getChars_ba4f3_110 : decode cJ6_getChars_ba4f3 110 = .ok (.iinc 5 (-1), 3) := by decide +kernel
theorem dJ6_getChars_ba4f3_113 : decode cJ6_getChars_ba4f3 113 = .ok (.iload 5, 2) := by decide +kernel
theorem dJ6_getChars_ba4f3_115 : decode cJ6_getChars_ba4f3 115 = .ok (.bipush 45, 2) := by decide +kernel
theorem dJ6_getChars_ba4f3_117 : decode cJ6_getChars_ba4f3 117 = .ok (.bastore, 1) := by decide +kernel
theorem dJ6_getChars_ba4f3_118 : decode cJ6_getChars_ba4f3 118 = .ok (.iload 5, 2) := by decide +kernel
theorem dJ6_getChars_ba4f3_120 : decode cJ6_getChars_ba4f3 120 = .ok (.ireturn, 1) := by decide +kernel
theorem dJ6_stringSize_0f7a4_0 : decode cJ6_stringSize_0f7a4 0 = .ok (.iconst 1, 1) := by decide +kernel
theorem dJ6_stringSize_0f7a4_1 : decode cJ6_stringSize_0f7a4 1 = .ok (.istore_n 1, 1) := by decide +kernel
theorem dJ6_stringSize_0f7a4_2 : decode cJ6_stringSize_0f7a4 2 = .ok (.iload_n 0, 1) := by decide +kernel
theorem dJ6_stringSize_0f7a4_3 : decode cJ6_stringSize_0f7a4 3 = .ok (.ifCond .lt 8, 3) := by decide +kernel
theorem dJ6_stringSize_0f7a4_6 : decode cJ6_stringSize_0f7a4 6 = .ok (.iconst 0, 1) := by decide +kernel
theorem dJ6_stringSize_0f7a4_7 : decode cJ6_stringSize_0f7a4 7 = .ok (.istore_n 1, 1) := by decide +kernel
theorem dJ6_stringSize_0f7a4_8 : decode cJ6_stringSize_0f7a4 8 = .ok (.iload_n 0, 1) := by decide +kernel
theorem dJ6_stringSize_0f7a4_9 : decode cJ6_stringSize_0f7a4 9 = .ok (.ineg, 1) := by decide +kernel
theorem dJ6_stringSize_0f7a4_10 : decode cJ6_stringSize_0f7a4 10 = .ok (.istore_n 0, 1) := by decide +kernel
theorem dJ6_stringSize_0f7a4_11 : decode cJ6_stringSize_0f7a4 11 = .ok (.bipush (-10), 2) := by decide +kernel
theorem dJ6_stringSize_0f7a4_13 : decode cJ6_stringSize_0f7a4 13 = .ok (.istore_n 2, 1) := by decide +kernel
theorem dJ6_stringSize_0f7a4_14 : decode cJ6_stringSize_0f7a4 14 = .ok (.iconst 1, 1) := by decide +kernel
theorem dJ6_stringSize_0f7a4_15 : decode cJ6_stringSize_0f7a4 15 = .ok (.istore_n 3, 1) := by decide +kernel
theorem dJ6_stringSize_0f7a4_16 : decode cJ6_stringSize_0f7a4 16 = .ok (.iload_n 3, 1) := by decide +kernel
theorem dJ6_stringSize_0f7a4_17 : decode cJ6_stringSize_0f7a4 17 = .ok (.bipush 10, 2) := by decide +kernel
theorem dJ6_stringSize_0f7a4_19 : decode cJ6_stringSize_0f7a4 19 = .ok (.if_icmp .ge 23, 3) := by decide +kernel
theorem dJ6_stringSize_0f7a4_22 : decode cJ6_stringSize_0f7a4 22 = .ok (.iload_n 0, 1) := by decide +kernel
theorem dJ6_stringSize_0f7a4_23 : decode cJ6_stringSize_0f7a4 23 = .ok (.iload_n 2, 1) := by decide +kernel
theorem dJ6_stringSize_0f7a4_24 : decode cJ6_stringSize_0f7a4 24 = .ok (.if_icmp .le 7, 3) := by decide +kernel
theorem dJ6_stringSize_0f7a4_27 : decode cJ6_stringSize_0f7a4 27 = .ok (.iload_n 3, 1) := by decide +kernel
theorem dJ6_stringSize_0f7a4_28 : decode cJ6_stringSize_0f7a4 28 = .ok (.iload_n 1, 1) := by decide +kernel
theorem dJ6_stringSize_0f7a4_29 : decode cJ6_stringSize_0f7a4 29 = .ok (.iadd, 1) := by decide +kernel
theorem dJ6_stringSize_0f7a4_30 : decode cJ6_stringSize_0f7a4 30 = .ok (.ireturn, 1) := by decide +kernel
theorem dJ6_stringSize_0f7a4_31 : decode cJ6_stringSize_0f7a4 31 = .ok (.bipush 10, 2) := by decide +kernel
theorem dJ6_stringSize_0f7a4_33 : decode cJ6_stringSize_0f7a4 33 = .ok (.iload_n 2, 1) := by decide +kernel
theorem dJ6_stringSize_0f7a4_34 : decode cJ6_stringSize_0f7a4 34 = .ok (.imul, 1) := by decide +kernel
theorem dJ6_stringSize_0f7a4_35 : decode cJ6_stringSize_0f7a4 35 = .ok (.istore_n 2, 1) := by decide +kernel
theorem dJ6_stringSize_0f7a4_36 : decode cJ6_stringSize_0f7a4 36 = .ok (.iinc 3 1, 3) := by decide +kernel
theorem dJ6_stringSize_0f7a4_39 : decode cJ6_stringSize_0f7a4 39 = .ok (.goto (-23), 3) := by decide +kernel
theorem dJ6_stringSize_0f7a4_42 : decode cJ6_stringSize_0f7a4 42 = .ok (.bipush 10, 2) := by decide +kernel
theorem dJ6_stringSize_0f7a4_44 : decode cJ6_stringSize_0f7a4 44 = .ok (.iload_n 1, 1) := by decide +kernel
theorem dJ6_stringSize_0f7a4_45 : decode cJ6_stringSize_0f7a4 45 = .ok (.iadd, 1) := by decide +kernel
theorem dJ6_stringSize_0f7a4_46 : decode cJ6_stringSize_0f7a4 46 = .ok (.ireturn, 1) := by decide +kernel
theorem dJ9_floorMod_7cf53_0 : decode cJ9_floorMod_7cf53 0 = .ok (.iload_n 0, 1) := by decide +kernel
theorem dJ9_floorMod_7cf53_1 : decode cJ9_floorMod_7cf53 1 = .ok (.iload_n 1, 1) := by decide +kernel
theorem dJ9_floorMod_7cf53_2 : decode cJ9_floorMod_7cf53 2 = .ok (.irem, 1) := by decide +kernel
theorem dJ9_floorMod_7cf53_3 : decode cJ9_floorMod_7cf53 3 = .ok (.istore_n 2, 1) := by decide +kernel
theorem dJ9_floorMod_7cf53_4 : decode cJ9_floorMod_7cf53 4 = .ok (.iload_n 0, 1) := by decide +kernel
theorem dJ9_floorMod_7cf53_5 : decode cJ9_floorMod_7cf53 5 = .ok (.iload_n 1, 1) := by decide +kernel
theorem dJ9_floorMod_7cf53_6 : decode cJ9_floorMod_7cf53 6 = .ok (.ixor, 1) := by decide +kernel
theorem dJ9_floorMod_7cf53_7 : decode cJ9_floorMod_7cf53 7 = .ok (.ifCond .ge 11, 3) := by decide +kernel
theorem dJ9_floorMod_7cf53_10 : decode cJ9_floorMod_7cf53 10 = .ok (.iload_n 2, 1) := by decide +kernel
theorem dJ9_floorMod_7cf53_11 : decode cJ9_floorMod_7cf53 11 = .ok (.ifCond .eq 7, 3) := by decide +kernel
theorem dJ9_floorMod_7cf53_14 : decode cJ9_floorMod_7cf53 14 = .ok (.iload_n 2, 1) := by decide +kernel
theorem dJ9_floorMod_7cf53_15 : decode cJ9_floorMod_7cf53 15 = .ok (.iload_n 1, 1) := by decide +kernel
theorem dJ9_floorMod_7cf53_16 : decode cJ9_floorMod_7cf53 16 = .ok (.iadd, 1) := by decide +kernel
theorem dJ9_floorMod_7cf53_17 : decode cJ9_floorMod_7cf53 17 = .ok (.ireturn, 1) := by decide +kernel
theorem dJ9_floorMod_7cf53_18 : decode cJ9_floorMod_7cf53 18 = .ok (.iload_n 2, 1) := by decide +kernel
theorem dJ9_floorMod_7cf53_19 : decode cJ9_floorMod_7cf53 19 = .ok (.ireturn, 1) := by decide +kernel
theorem dJ9_max_7cf53_0 : decode cJ9_max_7cf53 0 = .ok (.iload_n 0, 1) := by decide +kernel
theorem dJ9_max_7cf53_1 : decode cJ9_max_7cf53 1 = .ok (.iload_n 1, 1) := by decide +kernel
theorem dJ9_max_7cf53_2 : decode cJ9_max_7cf53 2 = .ok (.if_icmp .lt 7, 3) := by decide +kernel
theorem dJ9_max_7cf53_5 : decode cJ9_max_7cf53 5 = .ok (.iload_n 0, 1) := by decide +kernel
theorem dJ9_max_7cf53_6 : decode cJ9_max_7cf53 6 = .ok (.goto 4, 3) := by decide +kernel
theorem dJ9_max_7cf53_9 : decode cJ9_max_7cf53 9 = .ok (.iload_n 1, 1) := by decide +kernel
theorem dJ9_max_7cf53_10 : decode cJ9_max_7cf53 10 = .ok (.ireturn, 1) := by decide +kernel
theorem dJ9_min_7cf53_0 : decode cJ9_min_7cf53 0 = .ok (.iload_n 0, 1) := by decide +kernel
theorem dJ9_min_7cf53_1 : decode cJ9_min_7cf53 1 = .ok (.iload_n 1, 1) := by decide +kernel
theorem dJ9_min_7cf53_2 : decode cJ9_min_7cf53 2 = .ok (.if_icmp .gt 7, 3) := by decide +kernel
theorem dJ9_min_7cf53_5 : decode cJ9_min_7cf53 5 = .ok (.iload_n 0, 1) := by decide +kernel
theorem dJ9_min_7cf53_6 : decode cJ9_min_7cf53 6 = .ok (.goto 4, 3) := by decide +kernel
theorem dJ9_min_7cf53_9 : decode cJ9_min_7cf53 9 = .ok (.iload_n 1, 1) := by decide +kernel
theorem dJ9_min_7cf53_10 : decode cJ9_min_7cf53 10 = .ok (.ireturn, 1) := by decide +kernel
theorem dJ0_init_81219_0 : decode cJ0_init_81219 0 = .ok (.aload_n 0, 1) := by decide +kernel
theorem dJ0_init_81219_1 : decode cJ0_init_81219 1 = .ok (.aload_n 1, 1) := by decide +kernel
theorem dJ0_init_81219_2 : decode cJ0_init_81219 2 = .ok (.aconst_null, 1) := by decide +kernel
theorem dJ0_init_81219_3 : decode cJ0_init_81219 3 = .ok (.invokespecial 489, 3) := by decide +kernel
theorem dJ0_init_81219_6 : decode cJ0_init_81219 6 = .ok (.return_, 1) := by decide +kernel
theorem dJ0_length_8abf5_0 : decode cJ0_length_8abf5 0 = .ok (.aload_n 0, 1) := by decide +kernel
theorem dJ0_length_8abf5_1 : decode cJ0_length_8abf5 1 = .ok (.getfield 9, 3) := by decide +kernel
theorem dJ0_length_8abf5_4 : decode cJ0_length_8abf5 4 = .ok (.arraylength, 1) := by decide +kernel
theorem dJ0_length_8abf5_5 : decode cJ0_length_8abf5 5 = .ok (.aload_n 0, 1) := by decide +kernel
theorem dJ0_length_8abf5_6 : decode cJ0_length_8abf5 6 = .ok (.invokevirtual 335, 3) := by decide +kernel
theorem dJ0_length_8abf5_9 : decode cJ0_length_8abf5 9 = .ok (.ishr, 1) := by decide +kernel
theorem dJ0_length_8abf5_10 : decode cJ0_length_8abf5 10 = .ok (.ireturn, 1) := by decide +kernel
theorem dJ0_getBytes_840e7_0 : decode cJ0_getBytes_840e7 0 = .ok (.aload_n 0, 1) := by decide +kernel
theorem dJ0_getBytes_840e7_1 : decode cJ0_getBytes_840e7 1 = .ok (.invokevirtual 335, 3) := by decide +kernel
theorem dJ0_getBytes_840e7_4 : decode cJ0_getBytes_840e7 4 = .ok (.iload_n 3, 1) := by decide +kernel
theorem dJ0_getBytes_840e7_5 : decode cJ0_getBytes_840e7 5 = .ok (.if_icmp .ne 23, 3) := by decide +kernel
theorem dJ0_getBytes_840e7_8 : decode cJ0_getBytes_840e7 8 = .ok (.aload_n 0, 1) := by decide +kernel
theorem dJ0_getBytes_840e7_9 : decode cJ0_getBytes_840e7 9 = .ok (.getfield 9, 3) := by decide +kernel
theorem dJ0_getBytes_840e7_12 : decode cJ0_getBytes_840e7 12 = .ok (.iconst 0, 1) := by decide +kernel
theorem dJ0_getBytes_840e7_13 : decode cJ0_getBytes_840e7 13 = .ok (.aload_n 1, 1) := by decide +kernel
theorem dJ0_getBytes_840e7_14 : decode cJ0_getBytes_840e7 14 = .ok (.iload_n 2, 1) := by decide +kernel
theorem dJ0_getBytes_840e7_15 : decode cJ0_getBytes_840e7 15 = .ok (.iload_n 3, 1) := by decide +kernel
theorem dJ0_getBytes_840e7_16 : decode cJ0_getBytes_840e7 16 = .ok (.ishl, 1) := by decide +kernel
theorem dJ0_getBytes_840e7_17 : decode cJ0_getBytes_840e7 17 = .ok (.aload_n 0, 1) := by decide +kernel
theorem dJ0_getBytes_840e7_18 : decode cJ0_getBytes_840e7 18 = .ok (.getfield 9, 3) := by decide +kernel
theorem dJ0_getBytes_840e7_21 : decode cJ0_getBytes_840e7 21 = .ok (.arraylength, 1) := by decide +kernel
theorem dJ0_getBytes_840e7_22 : decode cJ0_getBytes_840e7 22 = .ok (.invokestatic 212, 3) := by decide +kernel
theorem dJ0_getBytes_840e7_25 : decode cJ0_getBytes_840e7 25 = .ok (.goto 18, 3) := by decide +kernel
theorem dJ0_getBytes_840e7_28 : decode cJ0_getBytes_840e7 28 = .ok (.aload_n 0, 1) := by decide +kernel
theorem dJ0_getBytes_840e7_29 : decode cJ0_getBytes_840e7 29 = .ok (.getfield 9, 3) := by decide +kernel
theorem dJ0_getBytes_840e7_32 : decode cJ0_getBytes_840e7 32 = .ok (.iconst 0, 1) := by decide +kernel
theorem dJ0_getBytes_840e7_33 : decode cJ0_getBytes_840e7 33 = .ok (.aload_n 1, 1) := by decide +kernel
theorem dJ0_getBytes_840e7_34 : decode cJ0_getBytes_840e7 34 = .ok (.iload_n 2, 1) := by decide +kernel
theorem dJ0_getBytes_840e7_35 : decode cJ0_getBytes_840e7 35 = .ok (.aload_n 0, 1) := by decide +kernel
theorem dJ0_getBytes_840e7_36 : decode cJ0_getBytes_840e7 36 = .ok (.getfield 9, 3) := by decide +kernel
theorem dJ0_getBytes_840e7_39 : decode cJ0_getBytes_840e7 39 = .ok (.arraylength, 1) := by decide +kernel
theorem dJ0_getBytes_840e7_40 : decode cJ0_getBytes_840e7 40 = .ok (.invokestatic 106, 3) := by decide +kernel
theorem dJ0_getBytes_840e7_43 : decode cJ0_getBytes_840e7 43 = .ok (.return_, 1) := by decide +kernel
theorem dJ0_init_db425_0 : decode cJ0_init_db425 0 = .ok (.aload_n 0, 1) := by decide +kernel
theorem dJ0_init_db425_1 : decode cJ0_init_db425 1 = .ok (.invokespecial 1, 3) := by decide +kernel
theorem dJ0_init_db425_4 : decode cJ0_init_db425 4 = .ok (.aload_n 1, 1) := by decide +kernel
theorem dJ0_init_db425_5 : decode cJ0_init_db425 5 = .ok (.invokevirtual 552, 3) := by decide +kernel
theorem dJ0_init_db425_8 : decode cJ0_init_db425 8 = .ok (.astore_n 3, 1) := by decide +kernel
theorem dJ0_init_db425_9 : decode cJ0_init_db425 9 = .ok (.aload_n 1, 1) := by decide +kernel
theorem dJ0_init_db425_10 : decode cJ0_init_db425 10 = .ok (.invokevirtual 549, 3) := by decide +kernel
theorem dJ0_init_db425_13 : decode cJ0_init_db425 13 = .ok (.istore 4, 2) := by decide +kernel
theorem dJ0_init_db425_15 : decode cJ0_init_db425 15 = .ok (.aload_n 1, 1) := by decide +kernel
theorem dJ0_init_db425_16 : decode cJ0_init_db425 16 = .ok (.invokevirtual 1047, 3) := by decide +kernel
theorem dJ0_init_db425_19 : decode cJ0_init_db425 19 = .ok (.ifCond .eq 22, 3) := by decide +kernel
theorem dJ0_init_db425_22 : decode cJ0_init_db425 22 = .ok (.aload_n 0, 1) := by decide +kernel
theorem dJ0_init_db425_23 : decode cJ0_init_db425 23 = .ok (.iconst 0, 1) := by decide +kernel
theorem dJ0_init_db425_24 : decode cJ0_init_db425 24 = .ok (.putfield 15, 3) := by decide +kernel
theorem dJ0_init_db425_27 : decode cJ0_init_db425 27 = .ok (.aload_n 0, 1) := by decide +kernel
theorem dJ0_init_db425_28 : decode cJ0_init_db425 28 = .ok (.aload_n 3, 1) := by decide +kernel
theorem dJ0_init_db425_29 : decode cJ0_init_db425 29 = .ok (.iconst 0, 1) := by decide +kernel
theorem dJ0_init_db425_30 : decode cJ0_init_db425 30 = .ok (.iload 4, 2) := by decide +kernel
theorem dJ0_init_db425_32 : decode cJ0_init_db425 32 = .ok (.invokestatic 54, 3) := by decide +kernel
theorem dJ0_init_db425_35 : decode cJ0_init_db425 35 = .ok (.putfield 9, 3) := by decide +kernel
theorem dJ0_init_db425_38 : decode cJ0_init_db425 38 = .ok (.goto 59, 3) := by decide +kernel
theorem dJ0_init_db425_41 : decode cJ0_init_db425 41 = .ok (.getstatic 38, 3) := by decide +kernel
theorem dJ0_init_db425_44 : decode cJ0_init_db425 44 = .ok (.ifCond .eq 35, 3) := by decide +kernel
theorem dJ0_init_db425_47 : decode cJ0_init_db425 47 = .ok (.aload_n 1, 1) := by decide +kernel
theorem dJ0_init_db425_48 : decode cJ0_init_db425 48 = .ok (.getfield 1048, 3) := by decide +kernel
theorem dJ0_init_db425_51 : decode cJ0_init_db425 51 = .ok (.ifCond .eq 28, 3) := by decide +kernel
theorem dJ0_init_db425_54 : decode cJ0_init_db425 54 = .ok (.aload_n 0, 1) := by decide +kernel
theorem dJ0_init_db425_55 : decode cJ0_init_db425 55 = .ok (.aload_n 3, 1) := by decide +kernel
theorem dJ0_init_db425_56 : decode cJ0_init_db425 56 = .ok (.iconst 0, 1) := by decide +kernel
theorem dJ0_init_db425_57 : decode cJ0_init_db425 57 = .ok (.iload 4, 2) := by decide +kernel
theorem dJ0_init_db425_59 : decode cJ0_init_db425 59 = .ok (.invokestatic 1051, 3) := by decide +kernel
theorem dJ0_init_db425_62 : decode cJ0_init_db425 62 = .ok (.putfield 9, 3) := by decide +kernel
theorem dJ0_init_db425_65 : decode cJ0_init_db425 65 = .ok (.aload_n 0, 1) := by decide +kernel
theorem dJ0_init_db425_66 : decode cJ0_init_db425 66 = .ok (.aload_n 0, 1) := by decide +kernel
theorem dJ0_init_db425_67 : decode cJ0_init_db425 67 = .ok (.getfield 9, 3) := by decide +kernel
theorem dJ0_init_db425_70 : decode cJ0_init_db425 70 = .ok (.iload 4, 2) := by decide +kernel
theorem dJ0_init_db425_72 : decode cJ0_init_db425 72 = .ok (.invokestatic 47, 3) := by decide +kernel
theorem dJ0_init_db425_75 : decode cJ0_init_db425 75 = .ok (.putfield 15, 3) := by decide +kernel
theorem dJ0_init_db425_78 : decode cJ0_init_db425 78 = .ok (.return_, 1) := by decide +kernel
theorem dJ0_init_db425_79 : decode cJ0_init_db425 79 = .ok (.aload_n 0, 1) := by decide +kernel
theorem dJ0_init_db425_80 : decode cJ0_init_db425 80 = .ok (.iconst 1, 1) := by decide +kernel
theorem dJ0_init_db425_81 : decode cJ0_init_db425 81 = .ok (.putfield 15, 3) := by decide +kernel
theorem dJ0_init_db425_84 : decode cJ0_init_db425 84 = .ok (.aload_n 0, 1) := by decide +kernel
theorem dJ0_init_db425_85 : decode cJ0_init_db425 85 = .ok (.aload_n 3, 1) := by decide +kernel
theorem dJ0_init_db425_86 : decode cJ0_init_db425 86 = .ok (.iconst 0, 1) := by decide +kernel
theorem dJ0_init_db425_87 : decode cJ0_init_db425 87 = .ok (.iload 4, 2) := by decide +kernel
theorem dJ0_init_db425_89 : decode cJ0_init_db425 89 = .ok (.iconst 1, 1) := by decide +kernel
theorem dJ0_init_db425_90 : decode cJ0_init_db425 90 = .ok (.ishl, 1) := by decide +kernel
theorem dJ0_init_db425_91 : decode cJ0_init_db425 91 = .ok (.invokestatic 54, 3) := by decide +kernel
theorem dJ0_init_db425_94 : decode cJ0_init_db425 94 = .ok (.putfield 9, 3) := by decide +kernel
theorem dJ0_init_db425_97 : decode cJ0_init_db425 97 = .ok (.return_, 1) := by decide +kernel
theorem dJ0_coder_7d493_0 : decode cJ0_coder_7d493 0 = .ok (.getstatic 38, 3) := by decide +kernel
theorem dJ0_coder_7d493_3 : decode cJ0_coder_7d493 3 = .ok (.ifCond .eq 10, 3) := by decide +kernel
theorem dJ0_coder_7d493_6 : decode cJ0_coder_7d493 6 = .ok (.aload_n 0, 1) := by decide +kernel
theorem dJ0_coder_7d493_7 : decode cJ0_coder_7d493 7 = .ok (.getfield 15, 3) := by decide +kernel
theorem dJ0_coder_7d493_10 : decode cJ0_coder_7d493 10 = .ok (.goto 4, 3) := by decide +kernel
theorem dJ0_coder_7d493_13 : decode cJ0_coder_7d493 13 = .ok (.iconst 1, 1) := by decide +kernel
theorem dJ0_coder_7d493_14 : decode cJ0_coder_7d493 14 = .ok (.ireturn, 1) := by decide +kernel
theorem dJ0_checkBoundsOffCount_cabcc_0 : decode cJ0_checkBoundsOffCount_cabcc 0 = .ok (.iload_n 0, 1) := by decide +kernel
theorem dJ0_checkBoundsOffCount_cabcc_1 : decode cJ0_checkBoundsOffCount_cabcc 1 = .ok (.iload_n 1, 1) := by decide +kernel
theorem dJ0_checkBoundsOffCount_cabcc_2 : decode cJ0_checkBoundsOffCount_cabcc 2 = .ok (.iload_n 2, 1) := by decide +kernel
theorem dJ0_checkBoundsOffCount_cabcc_3 : decode cJ0_checkBoundsOffCount_cabcc 3 = .ok (.getstatic 1053, 3) := by decide +kernel
theorem dJ0_checkBoundsOffCount_cabcc_6 : decode cJ0_checkBoundsOffCount_cabcc 6 = .ok (.invokestatic 1065, 3) := by decide +kernel
theorem dJ0_checkBoundsOffCount_cabcc_9 : decode cJ0_checkBoundsOffCount_cabcc 9 = .ok (.ireturn, 1) := by decide +kernel
theorem dJ0_checkBoundsBeginEnd_23922_0 : decode cJ0_checkBoundsBeginEnd_23922 0 = .ok (.iload_n 0, 1) := by decide +kernel
theorem dJ0_checkBoundsBeginEnd_23922_1 : decode cJ0_checkBoundsBeginEnd_23922 1 = .ok (.iload_n 1, 1) := by decide +kernel
theorem dJ0_checkBoundsBeginEnd_23922_2 : decode cJ0_checkBoundsBeginEnd_23922 2 = .ok (.iload_n 2, 1) := by decide +kernel
theorem dJ0_checkBoundsBeginEnd_23922_3 : decode cJ0_checkBoundsBeginEnd_23922 3 = .ok (.getstatic 1053, 3) := by decide +kernel
theorem dJ0_checkBoundsBeginEnd_23922_6 : decode cJ0_checkBoundsBeginEnd_23922 6 = .ok (.invokestatic 1062, 3) := by decide +kernel
theorem dJ0_checkBoundsBeginEnd_23922_9 : decode cJ0_checkBoundsBeginEnd_23922 9 = .ok (.pop, 1) := by decide +kernel
theorem dJ0_checkBoundsBeginEnd_23922_10 : decode cJ0_checkBoundsBeginEnd_23922 10 = .ok (.return_, 1) := by decide +kernel
theorem dJ4_init_da8c8_0 : decode cJ4_init_da8c8 0 = .ok (.aload_n 0, 1) := by decide +kernel
theorem dJ4_init_da8c8_1 : decode cJ4_init_da8c8 1 = .ok (.bipush 16, 2) := by decide +kernel
theorem dJ4_init_da8c8_3 : decode cJ4_init_da8c8 3 = .ok (.invokespecial 1, 3) := by decide +kernel
theorem dJ4_init_da8c8_6 : decode cJ4_init_da8c8 6 = .ok (.return_, 1) := by decide +kernel
theorem dJ4_append_15ec4_0 : decode cJ4_append_15ec4 0 = .ok (.aload_n 0, 1) := by decide +kernel
theorem dJ4_append_15ec4_1 : decode cJ4_append_15ec4 1 = .ok (.aload_n 1, 1) := by decide +kernel
theorem dJ4_append_15ec4_2 : decode cJ4_append_15ec4 2 = .ok (.invokespecial 29, 3) := by decide +kernel
theorem dJ4_append_15ec4_5 : decode cJ4_append_15ec4 5 = .ok (.pop, 1) := by decide +kernel
theorem dJ4_append_15ec4_6 : decode cJ4_append_15ec4 6 = .ok (.aload_n 0, 1) := by decide +kernel
theorem dJ4_append_15ec4_7 : decode cJ4_append_15ec4 7 = .ok (.areturn, 1) := by decide +kernel
theorem dJ4_append_bf812_0 : decode cJ4_append_bf812 0 = .ok (.aload_n 0, 1) := by decide +kernel
theorem dJ4_append_bf812_1 : decode cJ4_append_bf812 1 = .ok (.iload_n 1, 1) := by decide +kernel
theorem dJ4_append_bf812_2 : decode cJ4_append_bf812 2 = .ok (.invokespecial 53, 3) := by decide +kernel
theorem dJ4_append_bf812_5 : decode cJ4_append_bf812 5 = .ok (.pop, 1) := by decide +kernel
theorem dJ4_append_bf812_6 : decode cJ4_append_bf812 6 = .ok (.aload_n 0, 1) := by decide +kernel
theorem dJ4_append_bf812_7 : decode cJ4_append_bf812 7 = .ok (.areturn, 1) := by decide +kernel
theorem dJ4_toString_0e30d_0 : decode cJ4_toString_0e30d 0 = .ok (.new 18, 3) := by decide +kernel
theorem dJ4_toString_0e30d_3 : decode cJ4_toString_0e30d 3 = .ok (.dup, 1) := by decide +kernel
theorem dJ4_toString_0e30d_4 : decode cJ4_toString_0e30d 4 = .ok (.aload_n 0, 1) := by decide +kernel
theorem dJ4_toString_0e30d_5 : decode cJ4_toString_0e30d 5 = .ok (.invokespecial 137, 3) := by decide +kernel
theorem dJ4_toString_0e30d_8 : decode cJ4_toString_0e30d 8 = .ok (.areturn, 1) := by decide +kernel
theorem dJ4_length_8abf5_0 : decode cJ4_length_8abf5 0 = .ok (.aload_n 0, 1) := by decide +kernel
theorem dJ4_length_8abf5_1 : decode cJ4_length_8abf5 1 = .ok (.invokespecial 343, 3) := by decide +kernel
theorem dJ4_length_8abf5_4 : decode cJ4_length_8abf5 4 = .ok (.ireturn, 1) := by decide +kernel
theorem dJ1_inflate_0e8fd_0 : decode cJ1_inflate_0e8fd 0 = .ok (.aload_n 0, 1) := by decide +kernel
theorem dJ1_inflate_0e8fd_1 : decode cJ1_inflate_0e8fd 1 = .ok (.iload_n 1, 1) := by decide +kernel
theorem dJ1_inflate_0e8fd_2 : decode cJ1_inflate_0e8fd 2 = .ok (.aload_n 2, 1) := by decide +kernel
theorem dJ1_inflate_0e8fd_3 : decode cJ1_inflate_0e8fd 3 = .ok (.iload_n 3, 1) := by decide +kernel
theorem dJ1_inflate_0e8fd_4 : decode cJ1_inflate_0e8fd 4 = .ok (.iload 4, 2) := by decide +kernel
theorem dJ1_inflate_0e8fd_6 : decode cJ1_inflate_0e8fd 6 = .ok (.invokestatic 240, 3) := by decide +kernel
theorem dJ1_inflate_0e8fd_9 : decode cJ1_inflate_0e8fd 9 = .ok (.return_, 1) := by decide +kernel
theorem dJ2_newBytesFor_77867_0 : decode cJ2_newBytesFor_77867 0 = .ok (.iload_n 0, 1) := by decide +kernel
theorem dJ2_newBytesFor_77867_1 : decode cJ2_newBytesFor_77867 1 = .ok (.invokestatic 11, 3) := by decide +kernel
theorem dJ2_newBytesFor_77867_4 : decode cJ2_newBytesFor_77867 4 = .ok (.newarray .byte, 2) := by decide +kernel
theorem dJ2_newBytesFor_77867_6 : decode cJ2_newBytesFor_77867 6 = .ok (.areturn, 1) := by decide +kernel
theorem dJ2_newBytesLength_0f7a4_0 : decode cJ2_newBytesLength_0f7a4 0 = .ok (.iload_n 0, 1) := by decide +kernel
theorem dJ2_newBytesLength_0f7a4_1 : decode cJ2_newBytesLength_0f7a4 1 = .ok (.ifCond .ge 11, 3) := by decide +kernel
theorem dJ2_newBytesLength_0f7a4_4 : decode cJ2_newBytesLength_0f7a4 4 = .ok (.new 17, 3) := by decide +kernel
theorem dJ2_newBytesLength_0f7a4_7 : decode cJ2_newBytesLength_0f7a4 7 = .ok (.dup, 1) := by decide +kernel
theorem dJ2_newBytesLength_0f7a4_8 : decode cJ2_newBytesLength_0f7a4 8 = .ok (.invokespecial 19, 3) := by decide +kernel
theorem dJ2_newBytesLength_0f7a4_11 : decode cJ2_newBytesLength_0f7a4 11 = .ok (.athrow, 1) := by decide +kernel
theorem dJ2_newBytesLength_0f7a4_12 : decode cJ2_newBytesLength_0f7a4 12 = .ok (.iload_n 0, 1) := by decide +kernel
theorem dJ2_newBytesLength_0f7a4_13 : decode cJ2_newBytesLength_0f7a4 13 = .ok (.ldc 20, 2) := by decide +kernel
theorem dJ2_newBytesLength_0f7a4_15 : decode cJ2_newBytesLength_0f7a4 15 = .ok (.if_icmp .lt 40, 3) := by decide +kernel
theorem dJ2_newBytesLength_0f7a4_18 : decode cJ2_newBytesLength_0f7a4 18 = .ok (.new 21, 3) := by decide +kernel
theorem dJ2_newBytesLength_0f7a4_21 : decode cJ2_newBytesLength_0f7a4 21 = .ok (.dup, 1) := by decide +kernel
theorem dJ2_newBytesLength_0f7a4_22 : decode cJ2_newBytesLength_0f7a4 22 = .ok (.new 23, 3) := by decide +kernel
theorem dJ2_newBytesLength_0f7a4_25 : decode cJ2_newBytesLength_0f7a4 25 = .ok (.dup, 1) := by decide +kernel
theorem dJ2_newBytesLength_0f7a4_26 : decode cJ2_newBytesLength_0f7a4 26 = .ok (.invokespecial 25, 3) := by decide +kernel
theorem dJ2_newBytesLength_0f7a4_29 : decode cJ2_newBytesLength_0f7a4 29 = .ok (.ldc 26, 2) := by decide +kernel
theorem dJ2_newBytesLength_0f7a4_31 : decode cJ2_newBytesLength_0f7a4 31 = .ok (.invokevirtual 28, 3) := by decide +kernel
theorem dJ2_newBytesLength_0f7a4_34 : decode cJ2_newBytesLength_0f7a4 34 = .ok (.iload_n 0, 1) := by decide +kernel
theorem dJ2_newBytesLength_0f7a4_35 : decode cJ2_newBytesLength_0f7a4 35 = .ok (.invokevirtual 32, 3) := by decide +kernel
theorem dJ2_newBytesLength_0f7a4_38 : decode cJ2_newBytesLength_0f7a4 38 = .ok (.ldc 35, 2) := by decide +kernel
theorem dJ2_newBytesLength_0f7a4_40 : decode cJ2_newBytesLength_0f7a4 40 = .ok (.invokevirtual 28, 3) := by decide +kernel
theorem dJ2_newBytesLength_0f7a4_43 : decode cJ2_newBytesLength_0f7a4 43 = .ok (.ldc 20, 2) := by decide +kernel
theorem dJ2_newBytesLength_0f7a4_45 : decode cJ2_newBytesLength_0f7a4 45 = .ok (.invokevirtual 32, 3) := by decide +kernel
theorem dJ2_newBytesLength_0f7a4_48 : decode cJ2_newBytesLength_0f7a4 48 = .ok (.invokevirtual 37, 3) := by decide +kernel
theorem dJ2_newBytesLength_0f7a4_51 : decode cJ2_newBytesLength_0f7a4 51 = .ok (.invokespecial 41, 3) := by decide +kernel
theorem dJ2_newBytesLength_0f7a4_54 : decode cJ2_newBytesLength_0f7a4 54 = .ok (.athrow, 1) := by decide +kernel
theorem dJ2_newBytesLength_0f7a4_55 : decode cJ2_newBytesLength_0f7a4 55 = .ok (.iload_n 0, 1) := by decide +kernel
theorem dJ2_newBytesLength_0f7a4_56 : decode cJ2_newBytesLength_0f7a4 56 = .ok (.iconst 1, 1) := by decide +kernel
theorem dJ2_newBytesLength_0f7a4_57 : decode cJ2_newBytesLength_0f7a4 57 = .ok (.ishl, 1) := by decide +kernel
theorem dJ2_newBytesLength_0f7a4_58 : decode cJ2_newBytesLength_0f7a4 58 = .ok (.ireturn, 1) := by decide +kernel
theorem dJ2_putChar_b72d1_0 : decode cJ2_putChar_b72d1 0 = .ok (.getstatic 44, 3) := by decide +kernel
theorem dJ2_putChar_b72d1_3 : decode cJ2_putChar_b72d1 3 = .ok (.ifCond .ne 25, 3) := by decide +kernel
theorem dJ2_putChar_b72d1_6 : decode cJ2_putChar_b72d1 6 = .ok (.iload_n 1, 1) := by decide +kernel
theorem dJ2_putChar_b72d1_7 : decode cJ2_putChar_b72d1 7 = .ok (.ifCond .lt 11, 3) := by decide +kernel
theorem dJ2_putChar_b72d1_10 : decode cJ2_putChar_b72d1 10 = .ok (.iload_n 1, 1) := by decide +kernel
theorem dJ2_putChar_b72d1_11 : decode cJ2_putChar_b72d1 11 = .ok (.aload_n 0, 1) := by decide +kernel
theorem dJ2_putChar_b72d1_12 : decode cJ2_putChar_b72d1 12 = .ok (.invokestatic 48, 3) := by decide +kernel
theorem dJ2_putChar_b72d1_15 : decode cJ2_putChar_b72d1 15 = .ok (.if_icmp .lt 13, 3) := by decide +kernel
theorem dJ2_putChar_b72d1_18 : decode cJ2_putChar_b72d1 18 = .ok (.new 52, 3) := by decide +kernel
theorem dJ2_putChar_b72d1_21 : decode cJ2_putChar_b72d1 21 = .ok (.dup, 1) := by decide +kernel
theorem dJ2_putChar_b72d1_22 : decode cJ2_putChar_b72d1 22 = .ok (.ldc 54, 2) := by decide +kernel
theorem dJ2_putChar_b72d1_24 : decode cJ2_putChar_b72d1 24 = .ok (.invokespecial 56, 3) := by decide +kernel
theorem dJ2_putChar_b72d1_27 : decode cJ2_putChar_b72d1 27 = .ok (.athrow, 1) := by decide +kernel
theorem dJ2_putChar_b72d1_28 : decode cJ2_putChar_b72d1 28 = .ok (.iload_n 1, 1) := by decide +kernel
theorem dJ2_putChar_b72d1_29 : decode cJ2_putChar_b72d1 29 = .ok (.iconst 1, 1) := by decide +kernel
theorem dJ2_putChar_b72d1_30 : decode cJ2_putChar_b72d1 30 = .ok (.ishl, 1) := by decide +kernel
theorem dJ2_putChar_b72d1_31 : decode cJ2_putChar_b72d1 31 = .ok (.istore_n 1, 1) := by decide +kernel
theorem dJ2_putChar_b72d1_32 : decode cJ2_putChar_b72d1 32 = .ok (.aload_n 0, 1) := by decide +kernel
theorem dJ2_putChar_b72d1_33 : decode cJ2_putChar_b72d1 33 = .ok (.iload_n 1, 1) := by decide +kernel
theorem dJ2_putChar_b72d1_34 : decode cJ2_putChar_b72d1 34 = .ok (.iinc 1 1, 3) := by decide +kernel
theorem dJ2_putChar_b72d1_37 : decode cJ2_putChar_b72d1 37 = .ok (.iload_n 2, 1) := by decide +kernel
theorem dJ2_putChar_b72d1_38 : decode cJ2_putChar_b72d1 38 = .ok (.getstatic 59, 3) := by decide +kernel
theorem dJ2_putChar_b72d1_41 : decode cJ2_putChar_b72d1 41 = .ok (.ishr, 1) := by decide +kernel
theorem dJ2_putChar_b72d1_42 : decode cJ2_putChar_b72d1 42 = .ok (.i2b, 1) := by decide +kernel
theorem dJ2_putChar_b72d1_43 : decode cJ2_putChar_b72d1 43 = .ok (.bastore, 1) := by decide +kernel
theorem dJ2_putChar_b72d1_44 : decode cJ2_putChar_b72d1 44 = .ok (.aload_n 0, 1) := by decide +kernel
theorem dJ2_putChar_b72d1_45 : decode cJ2_putChar_b72d1 45 = .ok (.iload_n 1, 1) := by decide +kernel
theorem dJ2_putChar_b72d1_46 : decode cJ2_putChar_b72d1 46 = .ok (.iload_n 2, 1) := by decide +kernel
theorem dJ2_putChar_b72d1_47 : decode cJ2_putChar_b72d1 47 = .ok (.getstatic 63, 3) := by decide +kernel
theorem dJ2_putChar_b72d1_50 : decode cJ2_putChar_b72d1 50 = .ok (.ishr, 1) := by decide +kernel
theorem dJ2_putChar_b72d1_51 : decode cJ2_putChar_b72d1 51 = .ok (.i2b, 1) := by decide +kernel
theorem dJ2_putChar_b72d1_52 : decode cJ2_putChar_b72d1 52 = .ok (.bastore, 1) := by decide +kernel
theorem dJ2_putChar_b72d1_53 : decode cJ2_putChar_b72d1 53 = .ok (.return_, 1) := by decide +kernel
theorem dJ2_getChar_3b067_0 : decode cJ2_getChar_3b067 0 = .ok (.getstatic 44, 3) := by decide +kernel
theorem dJ2_getChar_3b067_3 : decode cJ2_getChar_3b067 3 = .ok (.ifCond .ne 25, 3) := by decide +kernel
theorem dJ2_getChar_3b067_6 : decode cJ2_getChar_3b067 6 = .ok (.iload_n 1, 1) := by decide +kernel
theorem dJ2_getChar_3b067_7 : decode cJ2_getChar_3b067 7 = .ok (.ifCond .lt 11, 3) := by decide +kernel
theorem dJ2_getChar_3b067_10 : decode cJ2_getChar_3b067 10 = .ok (.iload_n 1, 1) := by decide +kernel
theorem dJ2_getChar_3b067_11 : decode cJ2_getChar_3b067 11 = .ok (.aload_n 0, 1) := by decide +kernel
theorem dJ2_getChar_3b067_12 : decode cJ2_getChar_3b067 12 = .ok (.invokestatic 48, 3) := by decide +kernel
theorem dJ2_getChar_3b067_15 : decode cJ2_getChar_3b067 15 = .ok (.if_icmp .lt 13, 3) := by decide +kernel
theorem dJ2_getChar_3b067_18 : decode cJ2_getChar_3b067 18 = .ok (.new 52, 3) := by decide +kernel
theorem dJ2_getChar_3b067_21 : decode cJ2_getChar_3b067 21 = .ok (.dup, 1) := by decide +kernel
theorem dJ2_getChar_3b067_22 : decode cJ2_getChar_3b067 22 = .ok (.ldc 54, 2) := by decide +kernel
theorem dJ2_getChar_3b067_24 : decode cJ2_getChar_3b067 24 = .ok (.invokespecial 56, 3) := by decide +kernel
theorem dJ2_getChar_3b067_27 : decode cJ2_getChar_3b067 27 = .ok (.athrow, 1) := by decide +kernel
theorem dJ2_getChar_3b067_28 : decode cJ2_getChar_3b067 28 = .ok (.iload_n 1, 1) := by decide +kernel
theorem dJ2_getChar_3b067_29 : decode cJ2_getChar_3b067 29 = .ok (.iconst 1, 1) := by decide +kernel
theorem dJ2_getChar_3b067_30 : decode cJ2_getChar_3b067 30 = .ok (.ishl, 1) := by decide +kernel
theorem dJ2_getChar_3b067_31 : decode cJ2_getChar_3b067 31 = .ok (.istore_n 1, 1) := by decide +kernel
theorem dJ2_getChar_3b067_32 : decode cJ2_getChar_3b067 32 = .ok (.aload_n 0, 1) := by decide +kernel
theorem dJ2_getChar_3b067_33 : decode cJ2_getChar_3b067 33 = .ok (.iload_n 1, 1) := by decide +kernel
theorem dJ2_getChar_3b067_34 : decode cJ2_getChar_3b067 34 = .ok (.iinc 1 1, 3) := by decide +kernel
theorem dJ2_getChar_3b067_37 : decode cJ2_getChar_3b067 37 = .ok (.baload, 1) := by decide +kernel
theorem dJ2_getChar_3b067_38 : decode cJ2_getChar_3b067 38 = .ok (.sipush 255, 3) := by decide +kernel
theorem dJ2_getChar_3b067_41 : decode cJ2_getChar_3b067 41 = .ok (.iand, 1) := by decide +kernel
theorem dJ2_getChar_3b067_42 : decode cJ2_getChar_3b067 42 = .ok (.getstatic 59, 3) := by decide +kernel
theorem dJ2_getChar_3b067_45 : decode cJ2_getChar_3b067 45 = .ok (.ishl, 1) := by decide +kernel
theorem dJ2_getChar_3b067_46 : decode cJ2_getChar_3b067 46 = .ok (.aload_n 0, 1) := by decide +kernel
theorem dJ2_getChar_3b067_47 : decode cJ2_getChar_3b067 47 = .ok (.iload_n 1, 1) := by decide +kernel
theorem dJ2_getChar_3b067_48 : decode cJ2_getChar_3b067 48 = .ok (.baload, 1) := by decide +kernel
theorem dJ2_getChar_3b067_49 : decode cJ2_getChar_3b067 49 = .ok (.sipush 255, 3) := by decide +kernel
theorem dJ2_getChar_3b067_52 : decode cJ2_getChar_3b067 52 = .ok (.iand, 1) := by decide +kernel
theorem dJ2_getChar_3b067_53 : decode cJ2_getChar_3b067 53 = .ok (.getstatic 63, 3) := by decide +kernel
theorem dJ2_getChar_3b067_56 : decode cJ2_getChar_3b067 56 = .ok (.ishl, 1) := by decide +kernel
theorem dJ2_getChar_3b067_57 : decode cJ2_getChar_3b067 57 = .ok (.ior, 1) := by decide +kernel
theorem dJ2_getChar_3b067_58 : decode cJ2_getChar_3b067 58 = .ok (.i2c, 1) := by decide +kernel
theorem dJ2_getChar_3b067_59 : decode cJ2_getChar_3b067 59 = .ok (.ireturn, 1) := by decide +kernel
theorem dJ2_length_9d52b_0 : decode cJ2_length_9d52b 0 = .ok (.aload_n 0, 1) := by decide +kernel
theorem dJ2_length_9d52b_1 : decode cJ2_length_9d52b 1 = .ok (.arraylength, 1) := by decide +kernel
theorem dJ2_length_9d52b_2 : decode cJ2_length_9d52b 2 = .ok (.iconst 1, 1) := by decide +kernel
theorem dJ2_length_9d52b_3 : decode cJ2_length_9d52b 3 = .ok (.ishr, 1) := by decide +kernel
theorem dJ2_length_9d52b_4 : decode cJ2_length_9d52b 4 = .ok (.ireturn, 1) := by decide +kernel
theorem dJ2_coderFromArrayLen_85cad_0 : decode cJ2_coderFromArrayLen_85cad 0 = .ok (.iload_n 1, 1) := by decide +kernel
theorem dJ2_coderFromArrayLen_85cad_1 : decode cJ2_coderFromArrayLen_85cad 1 = .ok (.aload_n 0, 1) := by decide +kernel
theorem dJ2_coderFromArrayLen_85cad_2 : decode cJ2_coderFromArrayLen_85cad 2 = .ok (.arraylength, 1) := by decide +kernel
theorem dJ2_coderFromArrayLen_85cad_3 : decode cJ2_coderFromArrayLen_85cad 3 = .ok (.isub, 1) := by decide +kernel
theorem dJ2_coderFromArrayLen_85cad_4 : decode cJ2_coderFromArrayLen_85cad 4 = .ok (.bipush 31, 2) := by decide +kernel
theorem dJ2_coderFromArrayLen_85cad_6 : decode cJ2_coderFromArrayLen_85cad 6 = .ok (.iushr, 1) := by decide +kernel
theorem dJ2_coderFromArrayLen_85cad_7 : decode cJ2_coderFromArrayLen_85cad 7 = .ok (.i2b, 1) := by decide +kernel
theorem dJ2_coderFromArrayLen_85cad_8 : decode cJ2_coderFromArrayLen_85cad 8 = .ok (.ireturn, 1) := by decide +kernel
theorem dJ2_compress_39247_0 : decode cJ2_compress_39247 0 = .ok (.iload_n 2, 1) := by decide +kernel
theorem dJ2_compress_39247_1 : decode cJ2_compress_39247 1 = .ok (.newarray .byte, 2) := by decide +kernel
theorem dJ2_compress_39247_3 : decode cJ2_compress_39247 3 = .ok (.astore_n 3, 1) := by decide +kernel
theorem dJ2_compress_39247_4 : decode cJ2_compress_39247 4 = .ok (.aload_n 0, 1) := by decide +kernel
theorem dJ2_compress_39247_5 : decode cJ2_compress_39247 5 = .ok (.iload_n 1, 1) := by decide +kernel
theorem dJ2_compress_39247_6 : decode cJ2_compress_39247 6 = .ok (.aload_n 3, 1) := by decide +kernel
theorem dJ2_compress_39247_7 : decode cJ2_compress_39247 7 = .ok (.iconst 0, 1) := by decide +kernel
theorem dJ2_compress_39247_8 : decode cJ2_compress_39247 8 = .ok (.iload_n 2, 1) := by decide +kernel
theorem dJ2_compress_39247_9 : decode cJ2_compress_39247 9 = .ok (.invokestatic 123, 3) := by decide +kernel
theorem dJ2_compress_39247_12 : decode cJ2_compress_39247 12 = .ok (.istore 4, 2) := by decide +kernel
theorem dJ2_compress_39247_14 : decode cJ2_compress_39247 14 = .ok (.iload 4, 2) := by decide +kernel
theorem dJ2_compress_39247_16 : decode cJ2_compress_39247 16 = .ok (.iload_n 2, 1) := by decide +kernel
theorem dJ2_compress_39247_17 : decode cJ2_compress_39247 17 = .ok (.if_icmp .eq 47, 3) := by decide +kernel
theorem dJ2_compress_39247_20 : decode cJ2_compress_39247 20 = .ok (.aload_n 0, 1) := by decide +kernel
theorem dJ2_compress_39247_21 : decode cJ2_compress_39247 21 = .ok (.iload_n 1, 1) := by decide +kernel
theorem dJ2_compress_39247_22 : decode cJ2_compress_39247 22 = .ok (.iconst 1, 1) := by decide +kernel
theorem dJ2_compress_39247_23 : decode cJ2_compress_39247 23 = .ok (.ishl, 1) := by decide +kernel
theorem dJ2_compress_39247_24 : decode cJ2_compress_39247 24 = .ok (.iload_n 1, 1) := by decide +kernel
theorem dJ2_compress_39247_25 : decode cJ2_compress_39247 25 = .ok (.iload_n 2, 1) := by decide +kernel
theorem dJ2_compress_39247_26 : decode cJ2_compress_39247 26 = .ok (.iadd, 1) := by decide +kernel
theorem dJ2_compress_39247_27 : decode cJ2_compress_39247 27 = .ok (.invokestatic 11, 3) := by decide +kernel
theorem dJ2_compress_39247_30 : decode cJ2_compress_39247 30 = .ok (.invokestatic 126, 3) := by decide +kernel
theorem dJ2_compress_39247_33 : decode cJ2_compress_39247 33 = .ok (.astore 5, 2) := by decide +kernel
theorem dJ2_compress_39247_35 : decode cJ2_compress_39247 35 = .ok (.aload 5, 2) := by decide +kernel
theorem dJ2_compress_39247_37 : decode cJ2_compress_39247 37 = .ok (.iload 4, 2) := by decide +kernel
theorem dJ2_compress_39247_39 : decode cJ2_compress_39247 39 = .ok (.invokestatic 71, 3) := by decide +kernel
theorem dJ2_compress_39247_42 : decode cJ2_compress_39247 42 = .ok (.sipush 255, 3) := by decide +kernel
theorem dJ2_compress_39247_45 : decode cJ2_compress_39247 45 = .ok (.if_icmp .gt 16, 3) := by decide +kernel
theorem dJ2_compress_39247_48 : decode cJ2_compress_39247 48 = .ok (.aload 5, 2) := by decide +kernel
theorem dJ2_compress_39247_50 : decode cJ2_compress_39247 50 = .ok (.iconst 0, 1) := by decide +kernel
theorem dJ2_compress_39247_51 : decode cJ2_compress_39247 51 = .ok (.aload_n 3, 1) := by decide +kernel
theorem dJ2_compress_39247_52 : decode cJ2_compress_39247 52 = .ok (.iconst 0, 1) := by decide +kernel
theorem dJ2_compress_39247_53 : decode cJ2_compress_39247 53 = .ok (.iload_n 2, 1) := by decide +kernel
theorem dJ2_compress_39247_54 : decode cJ2_compress_39247 54 = .ok (.invokestatic 123, 3) := by decide +kernel
theorem dJ2_compress_39247_57 : decode cJ2_compress_39247 57 = .ok (.iload_n 2, 1) := by decide +kernel
theorem dJ2_compress_39247_58 : decode cJ2_compress_39247 58 = .ok (.if_icmp .eq 6, 3) := by decide +kernel
theorem dJ2_compress_39247_61 : decode cJ2_compress_39247 61 = .ok (.aload 5, 2) := by decide +kernel
theorem dJ2_compress_39247_63 : decode cJ2_compress_39247 63 = .ok (.areturn, 1) := by decide +kernel
theorem dJ2_compress_39247_64 : decode cJ2_compress_39247 64 = .ok (.aload_n 3, 1) := by decide +kernel
theorem dJ2_compress_39247_65 : decode cJ2_compress_39247 65 = .ok (.areturn, 1) := by decide +kernel
theorem dJ2_compress_5af95_0 : decode cJ2_compress_5af95 0 = .ok (.iload_n 1, 1) := by decide +kernel
theorem dJ2_compress_5af95_1 : decode cJ2_compress_5af95 1 = .ok (.iload 4, 2) := by decide +kernel
theorem dJ2_compress_5af95_3 : decode cJ2_compress_5af95 3 = .ok (.aload_n 0, 1) := by decide +kernel
theorem dJ2_compress_5af95_4 : decode cJ2_compress_5af95 4 = .ok (.invokestatic 173, 3) := by decide +kernel
theorem dJ2_compress_5af95_7 : decode cJ2_compress_5af95 7 = .ok (.iconst 0, 1) := by decide +kernel
theorem dJ2_compress_5af95_8 : decode cJ2_compress_5af95 8 = .ok (.istore 5, 2) := by decide +kernel
theorem dJ2_compress_5af95_10 : decode cJ2_compress_5af95 10 = .ok (.iload 5, 2) := by decide +kernel
theorem dJ2_compress_5af95_12 : decode cJ2_compress_5af95 12 = .ok (.iload 4, 2) := by decide +kernel
theorem dJ2_compress_5af95_14 : decode cJ2_compress_5af95 14 = .ok (.if_icmp .ge 39, 3) := by decide +kernel
theorem dJ2_compress_5af95_17 : decode cJ2_compress_5af95 17 = .ok (.aload_n 0, 1) := by decide +kernel
theorem dJ2_compress_5af95_18 : decode cJ2_compress_5af95 18 = .ok (.iload_n 1, 1) := by decide +kernel
theorem dJ2_compress_5af95_19 : decode cJ2_compress_5af95 19 = .ok (.invokestatic 71, 3) := by decide +kernel
theorem dJ2_compress_5af95_22 : decode cJ2_compress_5af95 22 = .ok (.istore 6, 2) := by decide +kernel
theorem dJ2_compress_5af95_24 : decode cJ2_compress_5af95 24 = .ok (.iload 6, 2) := by decide +kernel
theorem dJ2_compress_5af95_26 : decode cJ2_compress_5af95 26 = .ok (.sipush 255, 3) := by decide +kernel
theorem dJ2_compress_5af95_29 : decode cJ2_compress_5af95 29 = .ok (.if_icmp .le 6, 3) := by decide +kernel
theorem dJ2_compress_5af95_32 : decode cJ2_compress_5af95 32 = .ok (.iload 5, 2) := by decide +kernel
theorem dJ2_compress_5af95_34 : decode cJ2_compress_5af95 34 = .ok (.ireturn, 1) := by decide +kernel
theorem dJ2_compress_5af95_35 : decode cJ2_compress_5af95 35 = .ok (.aload_n 2, 1) := by decide +kernel
theorem dJ2_compress_5af95_36 : decode cJ2_compress_5af95 36 = .ok (.iload_n 3, 1) := by decide +kernel
theorem dJ2_compress_5af95_37 : decode cJ2_compress_5af95 37 = .ok (.iload 6, 2) := by decide +kernel
theorem dJ2_compress_5af95_39 : decode cJ2_compress_5af95 39 = .ok (.i2b, 1) := by decide +kernel
theorem dJ2_compress_5af95_40 : decode cJ2_compress_5af95 40 = .ok (.bastore, 1) := by decide +kernel
theorem dJ2_compress_5af95_41 : decode cJ2_compress_5af95 41 = .ok (.iinc 1 1, 3) := by decide +kernel
theorem dJ2_compress_5af95_44 : decode cJ2_compress_5af95 44 = .ok (.iinc 3 1, 3) := by decide +kernel
theorem dJ2_compress_5af95_47 : decode cJ2_compress_5af95 47 = .ok (.iinc 5 1, 3) := by decide +kernel
theorem dJ2_compress_5af95_50 : decode cJ2_compress_5af95 50 = .ok (.goto (-40), 3) := by decide +kernel
theorem dJ2_compress_5af95_53 : decode cJ2_compress_5af95 53 = .ok (.iload 4, 2) := by decide +kernel
theorem dJ2_compress_5af95_55 : decode cJ2_compress_5af95 55 = .ok (.ireturn, 1) := by decide +kernel
theorem dJ2_getChars_46870_0 : decode cJ2_getChars_46870 0 = .ok (.iload_n 1, 1) := by decide +kernel
theorem dJ2_getChars_46870_1 : decode cJ2_getChars_46870 1 = .ok (.iload_n 2, 1) := by decide +kernel
theorem dJ2_getChars_46870_2 : decode cJ2_getChars_46870 2 = .ok (.aload_n 3, 1) := by decide +kernel
theorem dJ2_getChars_46870_3 : decode cJ2_getChars_46870 3 = .ok (.invokestatic 96, 3) := by decide +kernel
theorem dJ2_getChars_46870_6 : decode cJ2_getChars_46870 6 = .ok (.iload_n 0, 1) := by decide +kernel
theorem dJ2_getChars_46870_7 : decode cJ2_getChars_46870 7 = .ok (.iload_n 2, 1) := by decide +kernel
theorem dJ2_getChars_46870_8 : decode cJ2_getChars_46870 8 = .ok (.aload_n 3, 1) := by decide +kernel
theorem dJ2_getChars_46870_9 : decode cJ2_getChars_46870 9 = .ok (.invokestatic 393, 3) := by decide +kernel
theorem dJ2_getChars_46870_12 : decode cJ2_getChars_46870 12 = .ok (.istore 4, 2) := by decide +kernel
theorem dJ2_getChars_46870_14 : decode cJ2_getChars_46870 14 = .ok (.getstatic 44, 3) := by decide +kernel
theorem dJ2_getChars_46870_17 : decode cJ2_getChars_46870 17 = .ok (.ifCond .ne 17, 3) := by decide +kernel
theorem dJ2_getChars_46870_20 : decode cJ2_getChars_46870 20 = .ok (.iload_n 1, 1) := by decide +kernel
theorem dJ2_getChars_46870_21 : decode cJ2_getChars_46870 21 = .ok (.iload 4, 2) := by decide +kernel
theorem dJ2_getChars_46870_23 : decode cJ2_getChars_46870 23 = .ok (.if_icmp .eq 11, 3) := by decide +kernel
theorem dJ2_getChars_46870_26 : decode cJ2_getChars_46870 26 = .ok (.new 52, 3) := by decide +kernel
theorem dJ2_getChars_46870_29 : decode cJ2_getChars_46870 29 = .ok (.dup, 1) := by decide +kernel
theorem dJ2_getChars_46870_30 : decode cJ2_getChars_46870 30 = .ok (.invokespecial 66, 3) := by decide +kernel
theorem dJ2_getChars_46870_33 : decode cJ2_getChars_46870 33 = .ok (.athrow, 1) := by decide +kernel
theorem dJ2_getChars_46870_34 : decode cJ2_getChars_46870 34 = .ok (.iload 4, 2) := by decide +kernel
theorem dJ2_getChars_46870_36 : decode cJ2_getChars_46870 36 = .ok (.ireturn, 1) := by decide +kernel
theorem dJ2_putCharsAt_cd4e5_0 : decode cJ2_putCharsAt_cd4e5 0 = .ok (.iload_n 1, 1) := by decide +kernel
theorem dJ2_putCharsAt_cd4e5_1 : decode cJ2_putCharsAt_cd4e5 1 = .ok (.iconst 4, 1) := by decide +kernel
theorem dJ2_putCharsAt_cd4e5_2 : decode cJ2_putCharsAt_cd4e5 2 = .ok (.iadd, 1) := by decide +kernel
theorem dJ2_putCharsAt_cd4e5_3 : decode cJ2_putCharsAt_cd4e5 3 = .ok (.istore 6, 2) := by decide +kernel
theorem dJ2_putCharsAt_cd4e5_5 : decode cJ2_putCharsAt_cd4e5 5 = .ok (.iload_n 1, 1) := by decide +kernel
theorem dJ2_putCharsAt_cd4e5_6 : decode cJ2_putCharsAt_cd4e5 6 = .ok (.iload 6, 2) := by decide +kernel
theorem dJ2_putCharsAt_cd4e5_8 : decode cJ2_putCharsAt_cd4e5 8 = .ok (.aload_n 0, 1) := by decide +kernel
theorem dJ2_putCharsAt_cd4e5_9 : decode cJ2_putCharsAt_cd4e5 9 = .ok (.invokestatic 96, 3) := by decide +kernel
theorem dJ2_putCharsAt_cd4e5_12 : decode cJ2_putCharsAt_cd4e5 12 = .ok (.aload_n 0, 1) := by decide +kernel
theorem dJ2_putCharsAt_cd4e5_13 : decode cJ2_putCharsAt_cd4e5 13 = .ok (.iload_n 1, 1) := by decide +kernel
theorem dJ2_putCharsAt_cd4e5_14 : decode cJ2_putCharsAt_cd4e5 14 = .ok (.iinc 1 1, 3) := by decide +kernel
theorem dJ2_putCharsAt_cd4e5_17 : decode cJ2_putCharsAt_cd4e5 17 = .ok (.iload_n 2, 1) := by decide +kernel
theorem dJ2_putCharsAt_cd4e5_18 : decode cJ2_putCharsAt_cd4e5 18 = .ok (.invokestatic 111, 3) := by decide +kernel
theorem dJ2_putCharsAt_cd4e5_21 : decode cJ2_putCharsAt_cd4e5 21 = .ok (.aload_n 0, 1) := by decide +kernel
theorem dJ2_putCharsAt_cd4e5_22 : decode cJ2_putCharsAt_cd4e5 22 = .ok (.iload_n 1, 1) := by decide +kernel
theorem dJ2_putCharsAt_cd4e5_23 : decode cJ2_putCharsAt_cd4e5 23 = .ok (.iinc 1 1, 3) := by decide +kernel
theorem dJ2_putCharsAt_cd4e5_26 : decode cJ2_putCharsAt_cd4e5 26 = .ok (.iload_n 3, 1) := by decide +kernel
theorem dJ2_putCharsAt_cd4e5_27 : decode cJ2_putCharsAt_cd4e5 27 = .ok (.invokestatic 111, 3) := by decide +kernel
theorem dJ2_putCharsAt_cd4e5_30 : decode cJ2_putCharsAt_cd4e5 30 = .ok (.aload_n 0, 1) := by decide +kernel
theorem dJ2_putCharsAt_cd4e5_31 : decode cJ2_putCharsAt_cd4e5 31 = .ok (.iload_n 1, 1) := by decide +kernel
theorem dJ2_putCharsAt_cd4e5_32 : decode cJ2_putCharsAt_cd4e5 32 = .ok (.iinc 1 1, 3) := by decide +kernel
theorem dJ2_putCharsAt_cd4e5_35 : decode cJ2_putCharsAt_cd4e5 35 = .ok (.iload 4, 2) := by decide +kernel
theorem dJ2_putCharsAt_cd4e5_37 : decode cJ2_putCharsAt_cd4e5 37 = .ok (.invokestatic 111, 3) := by decide +kernel
theorem dJ2_putCharsAt_cd4e5_40 : decode cJ2_putCharsAt_cd4e5 40 = .ok (.aload_n 0, 1) := by decide +kernel
theorem dJ2_putCharsAt_cd4e5_41 : decode cJ2_putCharsAt_cd4e5 41 = .ok (.iload_n 1, 1) := by decide +kernel
theorem dJ2_putCharsAt_cd4e5_42 : decode cJ2_putCharsAt_cd4e5 42 = .ok (.iinc 1 1, 3) := by decide +kernel
theorem dJ2_putCharsAt_cd4e5_45 : decode cJ2_putCharsAt_cd4e5 45 = .ok (.iload 5, 2) := by decide +kernel
theorem dJ2_putCharsAt_cd4e5_47 : decode cJ2_putCharsAt_cd4e5 47 = .ok (.invokestatic 111, 3) := by decide +kernel
theorem dJ2_putCharsAt_cd4e5_50 : decode cJ2_putCharsAt_cd4e5 50 = .ok (.getstatic 44, 3) := by decide +kernel
theorem dJ2_putCharsAt_cd4e5_53 : decode cJ2_putCharsAt_cd4e5 53 = .ok (.ifCond .ne 17, 3) := by decide +kernel
theorem dJ2_putCharsAt_cd4e5_56 : decode cJ2_putCharsAt_cd4e5 56 = .ok (.iload_n 1, 1) := by decide +kernel
theorem dJ2_putCharsAt_cd4e5_57 : decode cJ2_putCharsAt_cd4e5 57 = .ok (.iload 6, 2) := by decide +kernel
theorem dJ2_putCharsAt_cd4e5_59 : decode cJ2_putCharsAt_cd4e5 59 = .ok (.if_icmp .eq 11, 3) := by decide +kernel
theorem dJ2_putCharsAt_cd4e5_62 : decode cJ2_putCharsAt_cd4e5 62 = .ok (.new 52, 3) := by decide +kernel
theorem dJ2_putCharsAt_cd4e5_65 : decode cJ2_putCharsAt_cd4e5 65 = .ok (.dup, 1) := by decide +kernel
theorem dJ2_putCharsAt_cd4e5_66 : decode cJ2_putCharsAt_cd4e5 66 = .ok (.invokespecial 66, 3) := by decide +kernel
theorem dJ2_putCharsAt_cd4e5_69 : decode cJ2_putCharsAt_cd4e5 69 = .ok (.athrow, 1) := by decide +kernel
theorem dJ2_putCharsAt_cd4e5_70 : decode cJ2_putCharsAt_cd4e5 70 = .ok (.iload 6, 2) := by decide +kernel
theorem dJ2_putCharsAt_cd4e5_72 : decode cJ2_putCharsAt_cd4e5 72 = .ok (.ireturn, 1) := by decide +kernel
theorem dJ2_inflate_0e8fd_0 : decode cJ2_inflate_0e8fd 0 = .ok (.iload_n 3, 1) := by decide +kernel
theorem dJ2_inflate_0e8fd_1 : decode cJ2_inflate_0e8fd 1 = .ok (.iload 4, 2) := by decide +kernel
theorem dJ2_inflate_0e8fd_3 : decode cJ2_inflate_0e8fd 3 = .ok (.aload_n 2, 1) := by decide +kernel
theorem dJ2_inflate_0e8fd_4 : decode cJ2_inflate_0e8fd 4 = .ok (.invokestatic 173, 3) := by decide +kernel
theorem dJ2_inflate_0e8fd_7 : decode cJ2_inflate_0e8fd 7 = .ok (.iconst 0, 1) := by decide +kernel
theorem dJ2_inflate_0e8fd_8 : decode cJ2_inflate_0e8fd 8 = .ok (.istore 5, 2) := by decide +kernel
theorem dJ2_inflate_0e8fd_10 : decode cJ2_inflate_0e8fd 10 = .ok (.iload 5, 2) := by decide +kernel
theorem dJ2_inflate_0e8fd_12 : decode cJ2_inflate_0e8fd 12 = .ok (.iload 4, 2) := by decide +kernel
theorem dJ2_inflate_0e8fd_14 : decode cJ2_inflate_0e8fd 14 = .ok (.if_icmp .ge 27, 3) := by decide +kernel
theorem dJ2_inflate_0e8fd_17 : decode cJ2_inflate_0e8fd 17 = .ok (.aload_n 2, 1) := by decide +kernel
theorem dJ2_inflate_0e8fd_18 : decode cJ2_inflate_0e8fd 18 = .ok (.iload_n 3, 1) := by decide +kernel
theorem dJ2_inflate_0e8fd_19 : decode cJ2_inflate_0e8fd 19 = .ok (.iinc 3 1, 3) := by decide +kernel
theorem dJ2_inflate_0e8fd_22 : decode cJ2_inflate_0e8fd 22 = .ok (.aload_n 0, 1) := by decide +kernel
theorem dJ2_inflate_0e8fd_23 : decode cJ2_inflate_0e8fd 23 = .ok (.iload_n 1, 1) := by decide +kernel
theorem dJ2_inflate_0e8fd_24 : decode cJ2_inflate_0e8fd 24 = .ok (.iinc 1 1, 3) := by decide +kernel
theorem dJ2_inflate_0e8fd_27 : decode cJ2_inflate_0e8fd 27 = .ok (.baload, 1) := by decide +kernel
theorem dJ2_inflate_0e8fd_28 : decode cJ2_inflate_0e8fd 28 = .ok (.sipush 255, 3) := by decide +kernel
theorem dJ2_inflate_0e8fd_31 : decode cJ2_inflate_0e8fd 31 = .ok (.iand, 1) := by decide +kernel
theorem dJ2_inflate_0e8fd_32 : decode cJ2_inflate_0e8fd 32 = .ok (.invokestatic 111, 3) := by decide +kernel
theorem dJ2_inflate_0e8fd_35 : decode cJ2_inflate_0e8fd 35 = .ok (.iinc 5 1, 3) := by decide +kernel
theorem dJ2_inflate_0e8fd_38 : decode cJ2_inflate_0e8fd 38 = .ok (.goto (-28), 3) := by decide +kernel
theorem dJ2_inflate_0e8fd_41 : decode cJ2_inflate_0e8fd 41 = .ok (.return_, 1) := by decide +kernel
theorem dJ2_getChars_ba4f3_0 : decode cJ2_getChars_ba4f3 0 = .ok (.iload_n 1, 1) := by decide +kernel
theorem dJ2_getChars_ba4f3_1 : decode cJ2_getChars_ba4f3 1 = .ok (.istore 5, 2) := by decide +kernel
theorem dJ2_getChars_ba4f3_3 : decode cJ2_getChars_ba4f3 3 = .ok (.iload_n 0, 1) := by decide +kernel
theorem dJ2_getChars_ba4f3_4 : decode cJ2_getChars_ba4f3 4 = .ok (.ifCond .ge 7, 3) := by decide +kernel
theorem dJ2_getChars_ba4f3_7 : decode cJ2_getChars_ba4f3 7 = .ok (.iconst 1, 1) := by decide +kernel
theorem dJ2_getChars_ba4f3_8 : decode cJ2_getChars_ba4f3 8 = .ok (.goto 4, 3) := by decide +kernel
theorem dJ2_getChars_ba4f3_11 : decode cJ2_getChars_ba4f3 11 = .ok (.iconst 0, 1) := by decide +kernel
theorem dJ2_getChars_ba4f3_12 : decode cJ2_getChars_ba4f3 12 = .ok (.istore 6, 2) := by decide +kernel
theorem dJ2_getChars_ba4f3_14 : decode cJ2_getChars_ba4f3 14 = .ok (.iload 6, 2) := by decide +kernel
theorem dJ2_getChars_ba4f3_16 : decode cJ2_getChars_ba4f3 16 = .ok (.ifCond .ne 6, 3) := by decide +kernel
theorem dJ2_getChars_ba4f3_19 : decode cJ2_getChars_ba4f3 19 = .ok (.iload_n 0, 1) := by decide +kernel
theorem dJ2_getChars_ba4f3_20 : decode cJ2_getChars_ba4f3 20 = .ok (.ineg, 1) := by decide +kernel
theorem dJ2_getChars_ba4f3_21 : decode cJ2_getChars_ba4f3 21 = .ok (.istore_n 0, 1) := by decide +kernel
theorem dJ2_getChars_ba4f3_22 : decode cJ2_getChars_ba4f3 22 = .ok (.iload_n 0, 1) := by decide +kernel
theorem dJ2_getChars_ba4f3_23 : decode cJ2_getChars_ba4f3 23 = .ok (.bipush (-100), 2) := by decide +kernel
theorem dJ2_getChars_ba4f3_25 : decode cJ2_getChars_ba4f3 25 = .ok (.if_icmp .gt 51, 3) := by decide +kernel
theorem dJ2_getChars_ba4f3_28 : decode cJ2_getChars_ba4f3 28 = .ok (.iload_n 0, 1) := by decide +kernel
theorem dJ2_getChars_ba4f3_29 : decode cJ2_getChars_ba4f3 29 = .ok (.bipush 100, 2) := by decide +kernel
theorem dJ2_getChars_ba4f3_31 : decode cJ2_getChars_ba4f3 31 = .ok (.idiv, 1) := by decide +kernel
theorem dJ2_getChars_ba4f3_32 : decode cJ2_getChars_ba4f3 32 = .ok (.istore_n 3, 1) := by decide +kernel
theorem dJ2_getChars_ba4f3_33 : decode cJ2_getChars_ba4f3 33 = .ok (.iload_n 3, 1) := by decide +kernel
theorem dJ2_getChars_ba4f3_34 : decode cJ2_getChars_ba4f3 34 = .ok (.bipush 100, 2) := by decide +kernel
theorem dJ2_getChars_ba4f3_36 : decode cJ2_getChars_ba4f3 36 = .ok (.imul, 1) := by decide +kernel
theorem dJ2_getChars_ba4f3_37 : decode cJ2_getChars_ba4f3 37 = .ok (.iload_n 0, 1) := by decide +kernel
theorem dJ2_getChars_ba4f3_38 : decode cJ2_getChars_ba4f3 38 = .ok (.isub, 1) := by decide +kernel
theorem dJ2_getChars_ba4f3_39 : decode cJ2_getChars_ba4f3 39 = .ok (.istore 4, 2) := by decide +kernel
theorem dJ2_getChars_ba4f3_41 : decode cJ2_getChars_ba4f3 41 = .ok (.iload_n 3, 1) := by decide +kernel
theorem dJ2_getChars_ba4f3_42 : decode cJ2_getChars_ba4f3 42 = .ok (.istore_n 0, 1) := by decide +kernel
theorem dJ2_getChars_ba4f3_43 : decode cJ2_getChars_ba4f3 43 = .ok (.aload_n 2, 1) := by decide +kernel
theorem dJ2_getChars_ba4f3_44 : decode cJ2_getChars_ba4f3 44 = .ok (.iinc 5 (-1), 3) := by decide +kernel
theorem dJ2_getChars_ba4f3_47 : decode cJ2_getChars_ba4f3 47 = .ok (.iload 5, 2) := by decide +kernel
theorem dJ2_getChars_ba4f3_49 : decode cJ2_getChars_ba4f3 49 = .ok (.getstatic 403, 3) := by decide +kernel
theorem dJ2_getChars_ba4f3_52 : decode cJ2_getChars_ba4f3 52 = .ok (.iload 4, 2) := by decide +kernel
theorem dJ2_getChars_ba4f3_54 : decode cJ2_getChars_ba4f3 54 = .ok (.baload, 1) := by decide +kernel
theorem dJ2_getChars_ba4f3_55 : decode cJ2_getChars_ba4f3 55 = .ok (.invokestatic 111, 3) := by decide +kernel
theorem dJ2_getChars_ba4f3_58 : decode cJ2_getChars_ba4f3 58 = .ok (.aload_n 2, 1) := by decide +kernel
theorem dJ2_getChars_ba4f3_59 : decode cJ2_getChars_ba4f3 59 = .ok (.iinc 5 (-1), 3) := by decide +kernel
theorem dJ2_getChars_ba4f3_62 : decode cJ2_getChars_ba4f3 62 = .ok (.iload 5, 2) := by decide +kernel
theorem dJ2_getChars_ba4f3_64 : decode cJ2_getChars_ba4f3 64 = .ok (.getstatic 407, 3) := by decide +kernel
theorem dJ2_getChars_ba4f3_67 : decode cJ2_getChars_ba4f3 67 = .ok (.iload 4, 2) := by decide +kernel
theorem dJ2_getChars_ba4f3_69 : decode cJ2_getChars_ba4f3 69 = .ok (.baload, 1) := by decide +kernel
theorem dJ2_getChars_ba4f3_70 : decode cJ2_getChars_ba4f3 70 = .ok (.invokestatic 111, 3) := by decide +kernel
theorem dJ2_getChars_ba4f3_73 : decode cJ2_getChars_ba4f3 73 = .ok (.goto (-51), 3) := by decide +kernel
theorem dJ2_getChars_ba4f3_76 : decode cJ2_getChars_ba4f3 76 = .ok (.aload_n 2, 1) := by decide +kernel
theorem dJ2_getChars_ba4f3_77 : decode cJ2_getChars_ba4f3 77 = .ok (.iinc 5 (-1), 3) := by decide +kernel
theorem dJ2_getChars_ba4f3_80 : decode cJ2_getChars_ba4f3 80 = .ok (.iload 5, 2) := by decide +kernel
theorem dJ2_getChars_ba4f3_82 : decode cJ2_getChars_ba4f3 82 = .ok (.getstatic 403, 3) := by decide +kernel
theorem dJ2_getChars_ba4f3_85 : decode cJ2_getChars_ba4f3 85 = .ok (.iload_n 0, 1) := by decide +kernel
theorem dJ2_getChars_ba4f3_86 : decode cJ2_getChars_ba4f3 86 = .ok (.ineg, 1) := by decide +kernel
theorem dJ2_getChars_ba4f3_87 : decode cJ2_getChars_ba4f3 87 = .ok (.baload, 1) := by decide +kernel
theorem dJ2_getChars_ba4f3_88 : decode cJ2_getChars_ba4f3 88 = .ok (.invokestatic 111, 3) := by decide +kernel
theorem dJ2_getChars_ba4f3_91 : decode cJ2_getChars_ba4f3 91 = .ok (.iload_n 0, 1) := by decide +kernel
theorem dJ2_getChars_ba4f3_92 : decode cJ2_getChars_ba4f3 92 = .ok (.bipush (-9), 2) := by decide +kernel
theorem dJ2_getChars_ba4f3_94 : decode cJ2_getChars_ba4f3 94 = .ok (.if_icmp .ge 18, 3) := by decide +kernel
theorem dJ2_getChars_ba4f3_97 : decode cJ2_getChars_ba4f3 97 = .ok (.aload_n 2, 1) := by decide +kernel
theorem dJ2_getChars_ba4f3_98 : decode cJ2_getChars_ba4f3 98 = .ok (.iinc 5 (-1), 3) := by decide +kernel
theorem dJ2_getChars_ba4f3_101 : decode cJ2_getChars_ba4f3 101 = .ok (.iload 5, 2) := by decide +kernel
theorem dJ2_getChars_ba4f3_103 : decode cJ2_getChars_ba4f3 103 = .ok (.getstatic 407, 3) := by decide +kernel
theorem dJ2_getChars_ba4f3_106 : decode cJ2_getChars_ba4f3 106 = .ok (.iload_n 0, 1) := by decide +kernel
theorem dJ2_getChars_ba4f3_107 : decode cJ2_getChars_ba4f3 107 = .ok (.ineg, 1) := by decide +kernel
theorem dJ2_getChars_ba4f3_108 : decode cJ2_getChars_ba4f3 108 = .ok (.baload, 1) := by decide +kernel
theorem dJ2_getChars_ba4f3_109 : decode cJ2_getChars_ba4f3 109 = .ok (.invokestatic 111, 3) := by decide +kernel
theorem dJ2_getChars_ba4f3_112 : decode cJ2_getChars_ba4f3 112 = .ok (.iload 6, 2) := by decide +kernel
theorem dJ2_getChars_ba4f3_114 : decode cJ2_getChars_ba4f3 114 = .ok (.ifCond .eq 14, 3) := by decide +kernel
theorem dJ2_getChars_ba4f3_117 : decode cJ2_getChars_ba4f3 117 = .ok (.aload_n 2, 1) := by decide +kernel
theorem dJ2_getChars_ba4f3_118 : decode cJ2_getChars_ba4f3 118 = .ok (.iinc 5 (-1), 3) := by decide +kernel
theorem dJ2_getChars_ba4f3_121 : decode cJ2_getChars_ba4f3 121 = .ok (.iload 5, 2) := by decide +kernel
theorem dJ2_getChars_ba4f3_123 : decode cJ2_getChars_ba4f3 123 = .ok (.bipush 45, 2) := by decide +kernel
theorem dJ2_getChars_ba4f3_125 : decode cJ2_getChars_ba4f3 125 = .ok (.invokestatic 111, 3) := by decide +kernel
theorem dJ2_getChars_ba4f3_128 : decode cJ2_getChars_ba4f3 128 = .ok (.iload 5, 2) := by decide +kernel
theorem dJ2_getChars_ba4f3_130 : decode cJ2_getChars_ba4f3 130 = .ok (.ireturn, 1) := by decide +kernel
theorem dJ2_checkBoundsBeginEnd_d044e_0 : decode cJ2_checkBoundsBeginEnd_d044e 0 = .ok (.iload_n 0, 1) := by decide +kernel
theorem dJ2_checkBoundsBeginEnd_d044e_1 : decode cJ2_checkBoundsBeginEnd_d044e 1 = .ok (.iload_n 1, 1) := by decide +kernel
theorem dJ2_checkBoundsBeginEnd_d044e_2 : decode cJ2_checkBoundsBeginEnd_d044e 2 = .ok (.aload_n 2, 1) := by decide +kernel
theorem dJ2_checkBoundsBeginEnd_d044e_3 : decode cJ2_checkBoundsBeginEnd_d044e 3 = .ok (.invokestatic 48, 3) := by decide +kernel
theorem dJ2_checkBoundsBeginEnd_d044e_6 : decode cJ2_checkBoundsBeginEnd_d044e 6 = .ok (.invokestatic 241, 3) := by decide +kernel
theorem dJ2_checkBoundsBeginEnd_d044e_9 : decode cJ2_checkBoundsBeginEnd_d044e 9 = .ok (.return_, 1) := by decide +kernel
theorem dJ2_checkBoundsOffCount_d044e_0 : decode cJ2_checkBoundsOffCount_d044e 0 = .ok (.iload_n 0, 1) := by decide +kernel
theorem dJ2_checkBoundsOffCount_d044e_1 : decode cJ2_checkBoundsOffCount_d044e 1 = .ok (.iload_n 1, 1) := by decide +kernel
theorem dJ2_checkBoundsOffCount_d044e_2 : decode cJ2_checkBoundsOffCount_d044e 2 = .ok (.aload_n 2, 1) := by decide +kernel
theorem dJ2_checkBoundsOffCount_d044e_3 : decode cJ2_checkBoundsOffCount_d044e 3 = .ok (.invokestatic 48, 3) := by decide +kernel
theorem dJ2_checkBoundsOffCount_d044e_6 : decode cJ2_checkBoundsOffCount_d044e 6 = .ok (.invokestatic 419, 3) := by decide +kernel
theorem dJ2_checkBoundsOffCount_d044e_9 : decode cJ2_checkBoundsOffCount_d044e 9 = .ok (.pop, 1) := by decide +kernel
theorem dJ2_checkBoundsOffCount_d044e_10 : decode cJ2_checkBoundsOffCount_d044e 10 = .ok (.return_, 1) := by decide +kernel
theorem dJxa1e45_init_da8c8_0 : decode cJxa1e45_init_da8c8 0 = .ok (.aload_n 0, 1) := by decide +kernel
theorem dJxa1e45_init_da8c8_1 : decode cJxa1e45_init_da8c8 1 = .ok (.invokespecial 1, 3) := by decide +kernel
theorem dJxa1e45_init_da8c8_4 : decode cJxa1e45_init_da8c8 4 = .ok (.return_, 1) := by decide +kernel
theorem dJxc12de_init_da8c8_0 : decode cJxc12de_init_da8c8 0 = .ok (.aload_n 0, 1) := by decide +kernel
theorem dJxc12de_init_da8c8_1 : decode cJxc12de_init_da8c8 1 = .ok (.invokespecial 1, 3) := by decide +kernel
theorem dJxc12de_init_da8c8_4 : decode cJxc12de_init_da8c8 4 = .ok (.aload_n 0, 1) := by decide +kernel
theorem dJxc12de_init_da8c8_5 : decode cJxc12de_init_da8c8 5 = .ok (.iconst 0, 1) := by decide +kernel
theorem dJxc12de_init_da8c8_6 : decode cJxc12de_init_da8c8 6 = .ok (.putfield 7, 3) := by decide +kernel
theorem dJxc12de_init_da8c8_9 : decode cJxc12de_init_da8c8 9 = .ok (.return_, 1) := by decide +kernel
theorem dJx4a65c_init_da8c8_0 : decode cJx4a65c_init_da8c8 0 = .ok (.aload_n 0, 1) := by decide +kernel
theorem dJx4a65c_init_da8c8_1 : decode cJx4a65c_init_da8c8 1 = .ok (.invokespecial 1, 3) := by decide +kernel
theorem dJx4a65c_init_da8c8_4 : decode cJx4a65c_init_da8c8 4 = .ok (.aload_n 0, 1) := by decide +kernel
theorem dJx4a65c_init_da8c8_5 : decode cJx4a65c_init_da8c8 5 = .ok (.getstatic 39, 3) := by decide +kernel
theorem dJx4a65c_init_da8c8_8 : decode cJx4a65c_init_da8c8 8 = .ok (.putfield 9, 3) := by decide +kernel
theorem dJx4a65c_init_da8c8_11 : decode cJx4a65c_init_da8c8 11 = .ok (.return_, 1) := by decide +kernel
theorem dJx4a65c_grow_92f84_0 : decode cJx4a65c_grow_92f84 0 = .ok (.aload_n 0, 1) := by decide +kernel
theorem dJx4a65c_grow_92f84_1 : decode cJx4a65c_grow_92f84 1 = .ok (.getfield 9, 3) := by decide +kernel
theorem dJx4a65c_grow_92f84_4 : decode cJx4a65c_grow_92f84 4 = .ok (.arraylength, 1) := by decide +kernel
theorem dJx4a65c_grow_92f84_5 : decode cJx4a65c_grow_92f84 5 = .ok (.istore_n 2, 1) := by decide +kernel
theorem dJx4a65c_grow_92f84_6 : decode cJx4a65c_grow_92f84 6 = .ok (.iload_n 2, 1) := by decide +kernel
theorem dJx4a65c_grow_92f84_7 : decode cJx4a65c_grow_92f84 7 = .ok (.ifCond .gt 13, 3) := by decide +kernel
theorem dJx4a65c_grow_92f84_10 : decode cJx4a65c_grow_92f84 10 = .ok (.aload_n 0, 1) := by decide +kernel
theorem dJx4a65c_grow_92f84_11 : decode cJx4a65c_grow_92f84 11 = .ok (.getfield 9, 3) := by decide +kernel
theorem dJx4a65c_grow_92f84_14 : decode cJx4a65c_grow_92f84 14 = .ok (.getstatic 39, 3) := by decide +kernel
theorem dJx4a65c_grow_92f84_17 : decode cJx4a65c_grow_92f84 17 = .ok (.if_acmp .eq 28, 3) := by decide +kernel
theorem dJx4a65c_grow_92f84_20 : decode cJx4a65c_grow_92f84 20 = .ok (.iload_n 2, 1) := by decide +kernel
theorem dJx4a65c_grow_92f84_21 : decode cJx4a65c_grow_92f84 21 = .ok (.iload_n 1, 1) := by decide +kernel
theorem dJx4a65c_grow_92f84_22 : decode cJx4a65c_grow_92f84 22 = .ok (.iload_n 2, 1) := by decide +kernel
theorem dJx4a65c_grow_92f84_23 : decode cJx4a65c_grow_92f84 23 = .ok (.isub, 1) := by decide +kernel
theorem dJx4a65c_grow_92f84_24 : decode cJx4a65c_grow_92f84 24 = .ok (.iload_n 2, 1) := by decide +kernel
theorem dJx4a65c_grow_92f84_25 : decode cJx4a65c_grow_92f84 25 = .ok (.iconst 1, 1) := by decide +kernel
theorem dJx4a65c_grow_92f84_26 : decode cJx4a65c_grow_92f84 26 = .ok (.ishr, 1) := by decide +kernel
theorem dJx4a65c_grow_92f84_27 : decode cJx4a65c_grow_92f84 27 = .ok (.invokestatic 73, 3) := by decide +kernel
theorem dJx4a65c_grow_92f84_30 : decode cJx4a65c_grow_92f84 30 = .ok (.istore_n 3, 1) := by decide +kernel
theorem dJx4a65c_grow_92f84_31 : decode cJx4a65c_grow_92f84 31 = .ok (.aload_n 0, 1) := by decide +kernel
theorem dJx4a65c_grow_92f84_32 : decode cJx4a65c_grow_92f84 32 = .ok (.aload_n 0, 1) := by decide +kernel
theorem dJx4a65c_grow_92f84_33 : decode cJx4a65c_grow_92f84 33 = .ok (.getfield 9, 3) := by decide +kernel
theorem dJx4a65c_grow_92f84_36 : decode cJx4a65c_grow_92f84 36 = .ok (.iload_n 3, 1) := by decide +kernel
theorem dJx4a65c_grow_92f84_37 : decode cJx4a65c_grow_92f84 37 = .ok (.invokestatic 66, 3) := by decide +kernel
theorem dJx4a65c_grow_92f84_40 : decode cJx4a65c_grow_92f84 40 = .ok (.dup_x1, 1) := by decide +kernel
theorem dJx4a65c_grow_92f84_41 : decode cJx4a65c_grow_92f84 41 = .ok (.putfield 9, 3) := by decide +kernel
theorem dJx4a65c_grow_92f84_44 : decode cJx4a65c_grow_92f84 44 = .ok (.areturn, 1) := by decide +kernel
theorem dJx4a65c_grow_92f84_45 : decode cJx4a65c_grow_92f84 45 = .ok (.aload_n 0, 1) := by decide +kernel
theorem dJx4a65c_grow_92f84_46 : decode cJx4a65c_grow_92f84 46 = .ok (.bipush 10, 2) := by decide +kernel
theorem dJx4a65c_grow_92f84_48 : decode cJx4a65c_grow_92f84 48 = .ok (.iload_n 1, 1) := by decide +kernel
theorem dJx4a65c_grow_92f84_49 : decode cJx4a65c_grow_92f84 49 = .ok (.invokestatic 79, 3) := by decide +kernel
theorem dJx4a65c_grow_92f84_52 : decode cJx4a65c_grow_92f84 52 = .ok (.anewarray 7, 3) := by decide +kernel
theorem dJx4a65c_grow_92f84_55 : decode cJx4a65c_grow_92f84 55 = .ok (.dup_x1, 1) := by decide +kernel
theorem dJx4a65c_grow_92f84_56 : decode cJx4a65c_grow_92f84 56 = .ok (.putfield 9, 3) := by decide +kernel
theorem dJx4a65c_grow_92f84_59 : decode cJx4a65c_grow_92f84 59 = .ok (.areturn, 1) := by decide +kernel
theorem dJx4a65c_grow_d5877_0 : decode cJx4a65c_grow_d5877 0 = .ok (.aload_n 0, 1) := by decide +kernel
theorem dJx4a65c_grow_d5877_1 : decode cJx4a65c_grow_d5877 1 = .ok (.aload_n 0, 1) := by decide +kernel
theorem dJx4a65c_grow_d5877_2 : decode cJx4a65c_grow_d5877 2 = .ok (.getfield 48, 3) := by decide +kernel
theorem dJx4a65c_grow_d5877_5 : decode cJx4a65c_grow_d5877 5 = .ok (.iconst 1, 1) := by decide +kernel
theorem dJx4a65c_grow_d5877_6 : decode cJx4a65c_grow_d5877 6 = .ok (.iadd, 1) := by decide +kernel
theorem dJx4a65c_grow_d5877_7 : decode cJx4a65c_grow_d5877 7 = .ok (.invokevirtual 69, 3) := by decide +kernel
theorem dJx4a65c_grow_d5877_10 : decode cJx4a65c_grow_d5877 10 = .ok (.areturn, 1) := by decide +kernel
theorem dJx4a65c_size_8abf5_0 : decode cJx4a65c_size_8abf5 0 = .ok (.aload_n 0, 1) := by decide +kernel
theorem dJx4a65c_size_8abf5_1 : decode cJx4a65c_size_8abf5 1 = .ok (.getfield 48, 3) := by decide +kernel
theorem dJx4a65c_size_8abf5_4 : decode cJx4a65c_size_8abf5 4 = .ok (.ireturn, 1) := by decide +kernel
theorem dJx4a65c_elementData_915e3_0 : decode cJx4a65c_elementData_915e3 0 = .ok (.aload_n 0, 1) := by decide +kernel
theorem dJx4a65c_elementData_915e3_1 : decode cJx4a65c_elementData_915e3 1 = .ok (.getfield 9, 3) := by decide +kernel
theorem dJx4a65c_elementData_915e3_4 : decode cJx4a65c_elementData_915e3 4 = .ok (.iload_n 1, 1) := by decide +kernel
theorem dJx4a65c_elementData_915e3_5 : decode cJx4a65c_elementData_915e3 5 = .ok (.aaload, 1) := by decide +kernel
theorem dJx4a65c_elementData_915e3_6 : decode cJx4a65c_elementData_915e3 6 = .ok (.areturn, 1) := by decide +kernel
theorem dJx4a65c_get_915e3_0 : decode cJx4a65c_get_915e3 0 = .ok (.iload_n 1, 1) := by decide +kernel
theorem dJx4a65c_get_915e3_1 : decode cJx4a65c_get_915e3 1 = .ok (.aload_n 0, 1) := by decide +kernel
theorem dJx4a65c_get_915e3_2 : decode cJx4a65c_get_915e3 2 = .ok (.getfield 48, 3) := by decide +kernel
theorem dJx4a65c_get_915e3_5 : decode cJx4a65c_get_915e3 5 = .ok (.invokestatic 118, 3) := by decide +kernel
theorem dJx4a65c_get_915e3_8 : decode cJx4a65c_get_915e3 8 = .ok (.pop, 1) := by decide +kernel
theorem dJx4a65c_get_915e3_9 : decode cJx4a65c_get_915e3 9 = .ok (.aload_n 0, 1) := by decide +kernel
theorem dJx4a65c_get_915e3_10 : decode cJx4a65c_get_915e3 10 = .ok (.iload_n 1, 1) := by decide +kernel
theorem dJx4a65c_get_915e3_11 : decode cJx4a65c_get_915e3 11 = .ok (.invokevirtual 123, 3) := by decide +kernel
theorem dJx4a65c_get_915e3_14 : decode cJx4a65c_get_915e3 14 = .ok (.areturn, 1) := by decide +kernel
theorem dJx4a65c_add_72be8_0 : decode cJx4a65c_add_72be8 0 = .ok (.iload_n 3, 1) := by decide +kernel
theorem dJx4a65c_add_72be8_1 : decode cJx4a65c_add_72be8 1 = .ok (.aload_n 2, 1) := by decide +kernel
theorem dJx4a65c_add_72be8_2 : decode cJx4a65c_add_72be8 2 = .ok (.arraylength, 1) := by decide +kernel
theorem dJx4a65c_add_72be8_3 : decode cJx4a65c_add_72be8 3 = .ok (.if_icmp .ne 8, 3) := by decide +kernel
theorem dJx4a65c_add_72be8_6 : decode cJx4a65c_add_72be8 6 = .ok (.aload_n 0, 1) := by decide +kernel
theorem dJx4a65c_add_72be8_7 : decode cJx4a65c_add_72be8 7 = .ok (.invokevirtual 129, 3) := by decide +kernel
theorem dJx4a65c_add_72be8_10 : decode cJx4a65c_add_72be8 10 = .ok (.astore_n 2, 1) := by decide +kernel
theorem dJx4a65c_add_72be8_11 : decode cJx4a65c_add_72be8 11 = .ok (.aload_n 2, 1) := by decide +kernel
theorem dJx4a65c_add_72be8_12 : decode cJx4a65c_add_72be8 12 = .ok (.iload_n 3, 1) := by decide +kernel
theorem dJx4a65c_add_72be8_13 : decode cJx4a65c_add_72be8 13 = .ok (.aload_n 1, 1) := by decide +kernel
theorem dJx4a65c_add_72be8_14 : decode cJx4a65c_add_72be8 14 = .ok (.aastore, 1) := by decide +kernel
theorem dJx4a65c_add_72be8_15 : decode cJx4a65c_add_72be8 15 = .ok (.aload_n 0, 1) := by decide +kernel
theorem dJx4a65c_add_72be8_16 : decode cJx4a65c_add_72be8 16 = .ok (.iload_n 3, 1) := by decide +kernel
theorem dJx4a65c_add_72be8_17 : decode cJx4a65c_add_72be8 17 = .ok (.iconst 1, 1) := by decide +kernel
theorem dJx4a65c_add_72be8_18 : decode cJx4a65c_add_72be8 18 = .ok (.iadd, 1) := by decide +kernel
theorem dJx4a65c_add_72be8_19 : decode cJx4a65c_add_72be8 19 = .ok (.putfield 48, 3) := by decide +kernel
theorem dJx4a65c_add_72be8_22 : decode cJx4a65c_add_72be8 22 = .ok (.return_, 1) := by decide +kernel
theorem dJx4a65c_add_9ea2d_0 : decode cJx4a65c_add_9ea2d 0 = .ok (.aload_n 0, 1) := by decide +kernel
theorem dJx4a65c_add_9ea2d_1 : decode cJx4a65c_add_9ea2d 1 = .ok (.dup, 1) := by decide +kernel
theorem dJx4a65c_add_9ea2d_2 : decode cJx4a65c_add_9ea2d 2 = .ok (.getfield 63, 3) := by decide +kernel
theorem dJx4a65c_add_9ea2d_5 : decode cJx4a65c_add_9ea2d 5 = .ok (.iconst 1, 1) := by decide +kernel
theorem dJx4a65c_add_9ea2d_6 : decode cJx4a65c_add_9ea2d 6 = .ok (.iadd, 1) := by decide +kernel
theorem dJx4a65c_add_9ea2d_7 : decode cJx4a65c_add_9ea2d 7 = .ok (.putfield 63, 3) := by decide +kernel
theorem dJx4a65c_add_9ea2d_10 : decode cJx4a65c_add_9ea2d 10 = .ok (.aload_n 0, 1) := by decide +kernel
theorem dJx4a65c_add_9ea2d_11 : decode cJx4a65c_add_9ea2d 11 = .ok (.aload_n 1, 1) := by decide +kernel
theorem dJx4a65c_add_9ea2d_12 : decode cJx4a65c_add_9ea2d 12 = .ok (.aload_n 0, 1) := by decide +kernel
theorem dJx4a65c_add_9ea2d_13 : decode cJx4a65c_add_9ea2d 13 = .ok (.getfield 9, 3) := by decide +kernel
theorem dJx4a65c_add_9ea2d_16 : decode cJx4a65c_add_9ea2d 16 = .ok (.aload_n 0, 1) := by decide +kernel
theorem dJx4a65c_add_9ea2d_17 : decode cJx4a65c_add_9ea2d 17 = .ok (.getfield 48, 3) := by decide +kernel
theorem dJx4a65c_add_9ea2d_20 : decode cJx4a65c_add_9ea2d 20 = .ok (.invokevirtual 131, 3) := by decide +kernel
theorem dJx4a65c_add_9ea2d_23 : decode cJx4a65c_add_9ea2d 23 = .ok (.iconst 1, 1) := by decide +kernel
theorem dJx4a65c_add_9ea2d_24 : decode cJx4a65c_add_9ea2d 24 = .ok (.ireturn, 1) := by decide +kernel
theorem dJx4a65c_add_7a177_0 : decode cJx4a65c_add_7a177 0 = .ok (.aload_n 0, 1) := by decide +kernel
theorem dJx4a65c_add_7a177_1 : decode cJx4a65c_add_7a177 1 = .ok (.iload_n 1, 1) := by decide +kernel
theorem dJx4a65c_add_7a177_2 : decode cJx4a65c_add_7a177 2 = .ok (.invokevirtual 135, 3) := by decide +kernel
theorem dJx4a65c_add_7a177_5 : decode cJx4a65c_add_7a177 5 = .ok (.aload_n 0, 1) := by decide +kernel
theorem dJx4a65c_add_7a177_6 : decode cJx4a65c_add_7a177 6 = .ok (.dup, 1) := by decide +kernel
theorem dJx4a65c_add_7a177_7 : decode cJx4a65c_add_7a177 7 = .ok (.getfield 63, 3) := by decide +kernel
theorem dJx4a65c_add_7a177_10 : decode cJx4a65c_add_7a177 10 = .ok (.iconst 1, 1) := by decide +kernel
theorem dJx4a65c_add_7a177_11 : decode cJx4a65c_add_7a177 11 = .ok (.iadd, 1) := by decide +kernel
theorem dJx4a65c_add_7a177_12 : decode cJx4a65c_add_7a177 12 = .ok (.putfield 63, 3) := by decide +kernel
theorem dJx4a65c_add_7a177_15 : decode cJx4a65c_add_7a177 15 = .ok (.aload_n 0, 1) := by decide +kernel
theorem dJx4a65c_add_7a177_16 : decode cJx4a65c_add_7a177 16 = .ok (.getfield 48, 3) := by decide +kernel
theorem dJx4a65c_add_7a177_19 : decode cJx4a65c_add_7a177 19 = .ok (.dup, 1) := by decide +kernel
theorem dJx4a65c_add_7a177_20 : decode cJx4a65c_add_7a177 20 = .ok (.istore_n 3, 1) := by decide +kernel
theorem dJx4a65c_add_7a177_21 : decode cJx4a65c_add_7a177 21 = .ok (.aload_n 0, 1) := by decide +kernel
theorem dJx4a65c_add_7a177_22 : decode cJx4a65c_add_7a177 22 = .ok (.getfield 9, 3) := by decide +kernel
theorem dJx4a65c_add_7a177_25 : decode cJx4a65c_add_7a177 25 = .ok (.dup, 1) := by decide +kernel
theorem dJx4a65c_add_7a177_26 : decode cJx4a65c_add_7a177 26 = .ok (.astore 4, 2) := by decide +kernel
theorem dJx4a65c_add_7a177_28 : decode cJx4a65c_add_7a177 28 = .ok (.arraylength, 1) := by decide +kernel
theorem dJx4a65c_add_7a177_29 : decode cJx4a65c_add_7a177 29 = .ok (.if_icmp .ne 9, 3) := by decide +kernel
theorem dJx4a65c_add_7a177_32 : decode cJx4a65c_add_7a177 32 = .ok (.aload_n 0, 1) := by decide +kernel
theorem dJx4a65c_add_7a177_33 : decode cJx4a65c_add_7a177 33 = .ok (.invokevirtual 129, 3) := by decide +kernel
theorem dJx4a65c_add_7a177_36 : decode cJx4a65c_add_7a177 36 = .ok (.astore 4, 2) := by decide +kernel
theorem dJx4a65c_add_7a177_38 : decode cJx4a65c_add_7a177 38 = .ok (.aload 4, 2) := by decide +kernel
theorem dJx4a65c_add_7a177_40 : decode cJx4a65c_add_7a177 40 = .ok (.iload_n 1, 1) := by decide +kernel
theorem dJx4a65c_add_7a177_41 : decode cJx4a65c_add_7a177 41 = .ok (.aload 4, 2) := by decide +kernel
theorem dJx4a65c_add_7a177_43 : decode cJx4a65c_add_7a177 43 = .ok (.iload_n 1, 1) := by decide +kernel
theorem dJx4a65c_add_7a177_44 : decode cJx4a65c_add_7a177 44 = .ok (.iconst 1, 1) := by decide +kernel
theorem dJx4a65c_add_7a177_45 : decode cJx4a65c_add_7a177 45 = .ok (.iadd, 1) := by decide +kernel
theorem dJx4a65c_add_7a177_46 : decode cJx4a65c_add_7a177 46 = .ok (.iload_n 3, 1) := by decide +kernel
theorem dJx4a65c_add_7a177_47 : decode cJx4a65c_add_7a177 47 = .ok (.iload_n 1, 1) := by decide +kernel
theorem dJx4a65c_add_7a177_48 : decode cJx4a65c_add_7a177 48 = .ok (.isub, 1) := by decide +kernel
theorem dJx4a65c_add_7a177_49 : decode cJx4a65c_add_7a177 49 = .ok (.invokestatic 112, 3) := by decide +kernel
theorem dJx4a65c_add_7a177_52 : decode cJx4a65c_add_7a177 52 = .ok (.aload 4, 2) := by decide +kernel
theorem dJx4a65c_add_7a177_54 : decode cJx4a65c_add_7a177 54 = .ok (.iload_n 1, 1) := by decide +kernel
theorem dJx4a65c_add_7a177_55 : decode cJx4a65c_add_7a177 55 = .ok (.aload_n 2, 1) := by decide +kernel
theorem dJx4a65c_add_7a177_56 : decode cJx4a65c_add_7a177 56 = .ok (.aastore, 1) := by decide +kernel
theorem dJx4a65c_add_7a177_57 : decode cJx4a65c_add_7a177 57 = .ok (.aload_n 0, 1) := by decide +kernel
theorem dJx4a65c_add_7a177_58 : decode cJx4a65c_add_7a177 58 = .ok (.iload_n 3, 1) := by decide +kernel
theorem dJx4a65c_add_7a177_59 : decode cJx4a65c_add_7a177 59 = .ok (.iconst 1, 1) := by decide +kernel
theorem dJx4a65c_add_7a177_60 : decode cJx4a65c_add_7a177 60 = .ok (.iadd, 1) := by decide +kernel
theorem dJx4a65c_add_7a177_61 : decode cJx4a65c_add_7a177 61 = .ok (.putfield 48, 3) := by decide +kernel
theorem dJx4a65c_add_7a177_64 : decode cJx4a65c_add_7a177 64 = .ok (.return_, 1) := by decide +kernel
theorem dJx4a65c_remove_915e3_0 : decode cJx4a65c_remove_915e3 0 = .ok (.iload_n 1, 1) := by decide +kernel
theorem dJx4a65c_remove_915e3_1 : decode cJx4a65c_remove_915e3 1 = .ok (.aload_n 0, 1) := by decide +kernel
theorem dJx4a65c_remove_915e3_2 : decode cJx4a65c_remove_915e3 2 = .ok (.getfield 48, 3) := by decide +kernel
theorem dJx4a65c_remove_915e3_5 : decode cJx4a65c_remove_915e3 5 = .ok (.invokestatic 118, 3) := by decide +kernel
theorem dJx4a65c_remove_915e3_8 : decode cJx4a65c_remove_915e3 8 = .ok (.pop, 1) := by decide +kernel
theorem dJx4a65c_remove_915e3_9 : decode cJx4a65c_remove_915e3 9 = .ok (.aload_n 0, 1) := by decide +kernel
theorem dJx4a65c_remove_915e3_10 : decode cJx4a65c_remove_915e3 10 = .ok (.getfield 9, 3) := by decide +kernel
theorem dJx4a65c_remove_915e3_13 : decode cJx4a65c_remove_915e3 13 = .ok (.astore_n 2, 1) := by decide +kernel
theorem dJx4a65c_remove_915e3_14 : decode cJx4a65c_remove_915e3 14 = .ok (.aload_n 2, 1) := by decide +kernel
theorem dJx4a65c_remove_915e3_15 : decode cJx4a65c_remove_915e3 15 = .ok (.iload_n 1, 1) := by decide +kernel
theorem dJx4a65c_remove_915e3_16 : decode cJx4a65c_remove_915e3 16 = .ok (.aaload, 1) := by decide +kernel
theorem dJx4a65c_remove_915e3_17 : decode cJx4a65c_remove_915e3 17 = .ok (.astore_n 3, 1) := by decide +kernel
theorem dJx4a65c_remove_915e3_18 : decode cJx4a65c_remove_915e3 18 = .ok (.aload_n 0, 1) := by decide +kernel
theorem dJx4a65c_remove_915e3_19 : decode cJx4a65c_remove_915e3 19 = .ok (.aload_n 2, 1) := by decide +kernel
theorem dJx4a65c_remove_915e3_20 : decode cJx4a65c_remove_915e3 20 = .ok (.iload_n 1, 1) := by decide +kernel
theorem dJx4a65c_remove_915e3_21 : decode cJx4a65c_remove_915e3 21 = .ok (.invokevirtual 144, 3) := by decide +kernel
theorem dJx4a65c_remove_915e3_24 : decode cJx4a65c_remove_915e3 24 = .ok (.aload_n 3, 1) := by decide +kernel
theorem dJx4a65c_remove_915e3_25 : decode cJx4a65c_remove_915e3 25 = .ok (.areturn, 1) := by decide +kernel
theorem dJx4a65c_fastRemove_b59b0_0 : decode cJx4a65c_fastRemove_b59b0 0 = .ok (.aload_n 0, 1) := by decide +kernel
theorem dJx4a65c_fastRemove_b59b0_1 : decode cJx4a65c_fastRemove_b59b0 1 = .ok (.dup, 1) := by decide +kernel
theorem dJx4a65c_fastRemove_b59b0_2 : decode cJx4a65c_fastRemove_b59b0 2 = .ok (.getfield 63, 3) := by decide +kernel
theorem dJx4a65c_fastRemove_b59b0_5 : decode cJx4a65c_fastRemove_b59b0 5 = .ok (.iconst 1, 1) := by decide +kernel
theorem dJx4a65c_fastRemove_b59b0_6 : decode cJx4a65c_fastRemove_b59b0 6 = .ok (.iadd, 1) := by decide +kernel
theorem dJx4a65c_fastRemove_b59b0_7 : decode cJx4a65c_fastRemove_b59b0 7 = .ok (.putfield 63, 3) := by decide +kernel
theorem dJx4a65c_fastRemove_b59b0_10 : decode cJx4a65c_fastRemove_b59b0 10 = .ok (.aload_n 0, 1) := by decide +kernel
theorem dJx4a65c_fastRemove_b59b0_11 : decode cJx4a65c_fastRemove_b59b0 11 = .ok (.getfield 48, 3) := by decide +kernel
theorem dJx4a65c_fastRemove_b59b0_14 : decode cJx4a65c_fastRemove_b59b0 14 = .ok (.iconst 1, 1) := by decide +kernel
theorem dJx4a65c_fastRemove_b59b0_15 : decode cJx4a65c_fastRemove_b59b0 15 = .ok (.isub, 1) := by decide +kernel
theorem dJx4a65c_fastRemove_b59b0_16 : decode cJx4a65c_fastRemove_b59b0 16 = .ok (.dup, 1) := by decide +kernel
theorem dJx4a65c_fastRemove_b59b0_17 : decode cJx4a65c_fastRemove_b59b0 17 = .ok (.istore_n 3, 1) := by decide +kernel
theorem dJx4a65c_fastRemove_b59b0_18 : decode cJx4a65c_fastRemove_b59b0 18 = .ok (.iload_n 2, 1) := by decide +kernel
theorem dJx4a65c_fastRemove_b59b0_19 : decode cJx4a65c_fastRemove_b59b0 19 = .ok (.if_icmp .le 15, 3) := by decide +kernel
theorem dJx4a65c_fastRemove_b59b0_22 : decode cJx4a65c_fastRemove_b59b0 22 = .ok (.aload_n 1, 1) := by decide +kernel
theorem dJx4a65c_fastRemove_b59b0_23 : decode cJx4a65c_fastRemove_b59b0 23 = .ok (.iload_n 2, 1) := by decide +kernel
theorem dJx4a65c_fastRemove_b59b0_24 : decode cJx4a65c_fastRemove_b59b0 24 = .ok (.iconst 1, 1) := by decide +kernel
theorem dJx4a65c_fastRemove_b59b0_25 : decode cJx4a65c_fastRemove_b59b0 25 = .ok (.iadd, 1) := by decide +kernel
theorem dJx4a65c_fastRemove_b59b0_26 : decode cJx4a65c_fastRemove_b59b0 26 = .ok (.aload_n 1, 1) := by decide +kernel
theorem dJx4a65c_fastRemove_b59b0_27 : decode cJx4a65c_fastRemove_b59b0 27 = .ok (.iload_n 2, 1) := by decide +kernel
theorem dJx4a65c_fastRemove_b59b0_28 : decode cJx4a65c_fastRemove_b59b0 28 = .ok (.iload_n 3, 1) := by decide +kernel
theorem dJx4a65c_fastRemove_b59b0_29 : decode cJx4a65c_fastRemove_b59b0 29 = .ok (.iload_n 2, 1) := by decide +kernel
theorem dJx4a65c_fastRemove_b59b0_30 : decode cJx4a65c_fastRemove_b59b0 30 = .ok (.isub, 1) := by decide +kernel
theorem dJx4a65c_fastRemove_b59b0_31 : decode cJx4a65c_fastRemove_b59b0 31 = .ok (.invokestatic 112, 3) := by decide +kernel
theorem dJx4a65c_fastRemove_b59b0_34 : decode cJx4a65c_fastRemove_b59b0 34 = .ok (.aload_n 1, 1) := by decide +kernel
theorem dJx4a65c_fastRemove_b59b0_35 : decode cJx4a65c_fastRemove_b59b0 35 = .ok (.aload_n 0, 1) := by decide +kernel
theorem dJx4a65c_fastRemove_b59b0_36 : decode cJx4a65c_fastRemove_b59b0 36 = .ok (.iload_n 3, 1) := by decide +kernel
theorem dJx4a65c_fastRemove_b59b0_37 : decode cJx4a65c_fastRemove_b59b0 37 = .ok (.dup_x1, 1) := by decide +kernel
theorem dJx4a65c_fastRemove_b59b0_38 : decode cJx4a65c_fastRemove_b59b0 38 = .ok (.putfield 48, 3) := by decide +kernel
theorem dJx4a65c_fastRemove_b59b0_41 : decode cJx4a65c_fastRemove_b59b0 41 = .ok (.aconst_null, 1) := by decide +kernel
theorem dJx4a65c_fastRemove_b59b0_42 : decode cJx4a65c_fastRemove_b59b0 42 = .ok (.aastore, 1) := by decide +kernel
theorem dJx4a65c_fastRemove_b59b0_43 : decode cJx4a65c_fastRemove_b59b0 43 = .ok (.return_, 1) := by decide +kernel
theorem dJx4a65c_clear_da8c8_0 : decode cJx4a65c_clear_da8c8 0 = .ok (.aload_n 0, 1) := by decide +kernel
theorem dJx4a65c_clear_da8c8_1 : decode cJx4a65c_clear_da8c8 1 = .ok (.dup, 1) := by decide +kernel
theorem dJx4a65c_clear_da8c8_2 : decode cJx4a65c_clear_da8c8 2 = .ok (.getfield 63, 3) := by decide +kernel
theorem dJx4a65c_clear_da8c8_5 : decode cJx4a65c_clear_da8c8 5 = .ok (.iconst 1, 1) := by decide +kernel
theorem dJx4a65c_clear_da8c8_6 : decode cJx4a65c_clear_da8c8 6 = .ok (.iadd, 1) := by decide +kernel
theorem dJx4a65c_clear_da8c8_7 : decode cJx4a65c_clear_da8c8 7 = .ok (.putfield 63, 3) := by decide +kernel
theorem dJx4a65c_clear_da8c8_10 : decode cJx4a65c_clear_da8c8 10 = .ok (.aload_n 0, 1) := by decide +kernel
theorem dJx4a65c_clear_da8c8_11 : decode cJx4a65c_clear_da8c8 11 = .ok (.getfield 9, 3) := by decide +kernel
theorem dJx4a65c_clear_da8c8_14 : decode cJx4a65c_clear_da8c8 14 = .ok (.astore_n 1, 1) := by decide +kernel
theorem dJx4a65c_clear_da8c8_15 : decode cJx4a65c_clear_da8c8 15 = .ok (.aload_n 0, 1) := by decide +kernel
theorem dJx4a65c_clear_da8c8_16 : decode cJx4a65c_clear_da8c8 16 = .ok (.getfield 48, 3) := by decide +kernel
theorem dJx4a65c_clear_da8c8_19 : decode cJx4a65c_clear_da8c8 19 = .ok (.istore_n 2, 1) := by decide +kernel
theorem dJx4a65c_clear_da8c8_20 : decode cJx4a65c_clear_da8c8 20 = .ok (.aload_n 0, 1) := by decide +kernel
theorem dJx4a65c_clear_da8c8_21 : decode cJx4a65c_clear_da8c8 21 = .ok (.iconst 0, 1) := by decide +kernel
theorem dJx4a65c_clear_da8c8_22 : decode cJx4a65c_clear_da8c8 22 = .ok (.dup_x1, 1) := by decide +kernel
theorem dJx4a65c_clear_da8c8_23 : decode cJx4a65c_clear_da8c8 23 = .ok (.putfield 48, 3) := by decide +kernel
theorem dJx4a65c_clear_da8c8_26 : decode cJx4a65c_clear_da8c8 26 = .ok (.istore_n 3, 1) := by decide +kernel
theorem dJx4a65c_clear_da8c8_27 : decode cJx4a65c_clear_da8c8 27 = .ok (.iload_n 3, 1) := by decide +kernel
theorem dJx4a65c_clear_da8c8_28 : decode cJx4a65c_clear_da8c8 28 = .ok (.iload_n 2, 1) := by decide +kernel
theorem dJx4a65c_clear_da8c8_29 : decode cJx4a65c_clear_da8c8 29 = .ok (.if_icmp .ge 13, 3) := by decide +kernel
theorem dJx4a65c_clear_da8c8_32 : decode cJx4a65c_clear_da8c8 32 = .ok (.aload_n 1, 1) := by decide +kernel
theorem dJx4a65c_clear_da8c8_33 : decode cJx4a65c_clear_da8c8 33 = .ok (.iload_n 3, 1) := by decide +kernel
theorem dJx4a65c_clear_da8c8_34 : decode cJx4a65c_clear_da8c8 34 = .ok (.aconst_null, 1) := by decide +kernel
theorem dJx4a65c_clear_da8c8_35 : decode cJx4a65c_clear_da8c8 35 = .ok (.aastore, 1) := by decide +kernel
theorem dJx4a65c_clear_da8c8_36 : decode cJx4a65c_clear_da8c8 36 = .ok (.iinc 3 1, 3) := by decide +kernel
theorem dJx4a65c_clear_da8c8_39 : decode cJx4a65c_clear_da8c8 39 = .ok (.goto (-12), 3) := by decide +kernel
theorem dJx4a65c_clear_da8c8_42 : decode cJx4a65c_clear_da8c8 42 = .ok (.return_, 1) := by decide +kernel
theorem dJx4a65c_rangeCheckForAdd_d00df_0 : decode cJx4a65c_rangeCheckForAdd_d00df 0 = .ok (.iload_n 1, 1) := by decide +kernel
theorem dJx4a65c_rangeCheckForAdd_d00df_1 : decode cJx4a65c_rangeCheckForAdd_d00df 1 = .ok (.aload_n 0, 1) := by decide +kernel
theorem dJx4a65c_rangeCheckForAdd_d00df_2 : decode cJx4a65c_rangeCheckForAdd_d00df 2 = .ok (.getfield 48, 3) := by decide +kernel
theorem dJx4a65c_rangeCheckForAdd_d00df_5 : decode cJx4a65c_rangeCheckForAdd_d00df 5 = .ok (.if_icmp .gt 7, 3) := by decide +kernel
theorem dJx4a65c_rangeCheckForAdd_d00df_8 : decode cJx4a65c_rangeCheckForAdd_d00df 8 = .ok (.iload_n 1, 1) := by decide +kernel
theorem dJx4a65c_rangeCheckForAdd_d00df_9 : decode cJx4a65c_rangeCheckForAdd_d00df 9 = .ok (.ifCond .ge 16, 3) := by decide +kernel
theorem dJx4a65c_rangeCheckForAdd_d00df_12 : decode cJx4a65c_rangeCheckForAdd_d00df 12 = .ok (.new 187, 3) := by decide +kernel
theorem dJx4a65c_rangeCheckForAdd_d00df_15 : decode cJx4a65c_rangeCheckForAdd_d00df 15 = .ok (.dup, 1) := by decide +kernel
theorem dJx4a65c_rangeCheckForAdd_d00df_16 : decode cJx4a65c_rangeCheckForAdd_d00df 16 = .ok (.aload_n 0, 1) := by decide +kernel
theorem dJx4a65c_rangeCheckForAdd_d00df_17 : decode cJx4a65c_rangeCheckForAdd_d00df 17 = .ok (.iload_n 1, 1) := by decide +kernel
theorem dJx4a65c_rangeCheckForAdd_d00df_18 : decode cJx4a65c_rangeCheckForAdd_d00df 18 = .ok (.invokevirtual 198, 3) := by decide +kernel
theorem dJx4a65c_rangeCheckForAdd_d00df_21 : decode cJx4a65c_rangeCheckForAdd_d00df 21 = .ok (.invokespecial 193, 3) := by decide +kernel
theorem dJx4a65c_rangeCheckForAdd_d00df_24 : decode cJx4a65c_rangeCheckForAdd_d00df 24 = .ok (.athrow, 1) := by decide +kernel
theorem dJx4a65c_rangeCheckForAdd_d00df_25 : decode cJx4a65c_rangeCheckForAdd_d00df 25 = .ok (.return_, 1) := by decide +kernel
theorem dJx4a65c_outOfBoundsMsg_b52d3_0 : decode cJx4a65c_outOfBoundsMsg_b52d3 0 = .ok (.new 20, 3) := by decide +kernel
theorem dJx4a65c_outOfBoundsMsg_b52d3_3 : decode cJx4a65c_outOfBoundsMsg_b52d3 3 = .ok (.dup, 1) := by decide +kernel
theorem dJx4a65c_outOfBoundsMsg_b52d3_4 : decode cJx4a65c_outOfBoundsMsg_b52d3 4 = .ok (.invokespecial 22, 3) := by decide +kernel
theorem dJx4a65c_outOfBoundsMsg_b52d3_7 : decode cJx4a65c_outOfBoundsMsg_b52d3 7 = .ok (.ldc 201, 2) := by decide +kernel
theorem dJx4a65c_outOfBoundsMsg_b52d3_9 : decode cJx4a65c_outOfBoundsMsg_b52d3 9 = .ok (.invokevirtual 25, 3) := by decide +kernel
theorem dJx4a65c_outOfBoundsMsg_b52d3_12 : decode cJx4a65c_outOfBoundsMsg_b52d3 12 = .ok (.iload_n 1, 1) := by decide +kernel
theorem dJx4a65c_outOfBoundsMsg_b52d3_13 : decode cJx4a65c_outOfBoundsMsg_b52d3 13 = .ok (.invokevirtual 29, 3) := by decide +kernel
theorem dJx4a65c_outOfBoundsMsg_b52d3_16 : decode cJx4a65c_outOfBoundsMsg_b52d3 16 = .ok (.ldc 203, 2) := by decide +kernel
theorem dJx4a65c_outOfBoundsMsg_b52d3_18 : decode cJx4a65c_outOfBoundsMsg_b52d3 18 = .ok (.invokevirtual 25, 3) := by decide +kernel
theorem dJx4a65c_outOfBoundsMsg_b52d3_21 : decode cJx4a65c_outOfBoundsMsg_b52d3 21 = .ok (.aload_n 0, 1) := by decide +kernel
theorem dJx4a65c_outOfBoundsMsg_b52d3_22 : decode cJx4a65c_outOfBoundsMsg_b52d3 22 = .ok (.getfield 48, 3) := by decide +kernel
theorem dJx4a65c_outOfBoundsMsg_b52d3_25 : decode cJx4a65c_outOfBoundsMsg_b52d3 25 = .ok (.invokevirtual 29, 3) := by decide +kernel
theorem dJx4a65c_outOfBoundsMsg_b52d3_28 : decode cJx4a65c_outOfBoundsMsg_b52d3 28 = .ok (.invokevirtual 32, 3) := by decide +kernel
theorem dJx4a65c_outOfBoundsMsg_b52d3_31 : decode cJx4a65c_outOfBoundsMsg_b52d3 31 = .ok (.areturn, 1) := by decide +kernel
theorem dJ7_fill_53178_0 : decode cJ7_fill_53178 0 = .ok (.iconst 0, 1) := by decide +kernel
theorem dJ7_fill_53178_1 : decode cJ7_fill_53178 1 = .ok (.istore_n 2, 1) := by decide +kernel
theorem dJ7_fill_53178_2 : decode cJ7_fill_53178 2 = .ok (.aload_n 0, 1) := by decide +kernel
theorem dJ7_fill_53178_3 : decode cJ7_fill_53178 3 = .ok (.arraylength, 1) := by decide +kernel
theorem dJ7_fill_53178_4 : decode cJ7_fill_53178 4 = .ok (.istore_n 3, 1) := by decide +kernel
theorem dJ7_fill_53178_5 : decode cJ7_fill_53178 5 = .ok (.iload_n 2, 1) := by decide +kernel
theorem dJ7_fill_53178_6 : decode cJ7_fill_53178 6 = .ok (.iload_n 3, 1) := by decide +kernel
theorem dJ7_fill_53178_7 : decode cJ7_fill_53178 7 = .ok (.if_icmp .ge 13, 3) := by decide +kernel
theorem dJ7_fill_53178_10 : decode cJ7_fill_53178 10 = .ok (.aload_n 0, 1) := by decide +kernel
theorem dJ7_fill_53178_11 : decode cJ7_fill_53178 11 = .ok (.iload_n 2, 1) := by decide +kernel
theorem dJ7_fill_53178_12 : decode cJ7_fill_53178 12 = .ok (.iload_n 1, 1) := by decide +kernel
theorem dJ7_fill_53178_13 : decode cJ7_fill_53178 13 = .ok (.iastore, 1) := by decide +kernel
theorem dJ7_fill_53178_14 : decode cJ7_fill_53178 14 = .ok (.iinc 2 1, 3) := by decide +kernel
theorem dJ7_fill_53178_17 : decode cJ7_fill_53178 17 = .ok (.goto (-12), 3) := by decide +kernel
theorem dJ7_fill_53178_20 : decode cJ7_fill_53178 20 = .ok (.return_, 1) := by decide +kernel
theorem dJ7_copyOf_1904c_0 : decode cJ7_copyOf_1904c 0 = .ok (.aload_n 0, 1) := by decide +kernel
theorem dJ7_copyOf_1904c_1 : decode cJ7_copyOf_1904c 1 = .ok (.iload_n 1, 1) := by decide +kernel
theorem dJ7_copyOf_1904c_2 : decode cJ7_copyOf_1904c 2 = .ok (.aload_n 0, 1) := by decide +kernel
theorem dJ7_copyOf_1904c_3 : decode cJ7_copyOf_1904c 3 = .ok (.invokevirtual 86, 3) := by decide +kernel
theorem dJ7_copyOf_1904c_6 : decode cJ7_copyOf_1904c 6 = .ok (.invokestatic 300, 3) := by decide +kernel
theorem dJ7_copyOf_1904c_9 : decode cJ7_copyOf_1904c 9 = .ok (.areturn, 1) := by decide +kernel
theorem dJ7_copyOf_6403c_0 : decode cJ7_copyOf_6403c 0 = .ok (.aload_n 2, 1) := by decide +kernel
theorem dJ7_copyOf_6403c_1 : decode cJ7_copyOf_6403c 1 = .ok (.ldc 110, 2) := by decide +kernel
theorem dJ7_copyOf_6403c_3 : decode cJ7_copyOf_6403c 3 = .ok (.if_acmp .ne 10, 3) := by decide +kernel
theorem dJ7_copyOf_6403c_6 : decode cJ7_copyOf_6403c 6 = .ok (.iload_n 1, 1) := by decide +kernel
theorem dJ7_copyOf_6403c_7 : decode cJ7_copyOf_6403c 7 = .ok (.anewarray 2, 3) := by decide +kernel
theorem dJ7_copyOf_6403c_10 : decode cJ7_copyOf_6403c 10 = .ok (.goto 14, 3) := by decide +kernel
theorem dJ7_copyOf_6403c_13 : decode cJ7_copyOf_6403c 13 = .ok (.aload_n 2, 1) := by decide +kernel
theorem dJ7_copyOf_6403c_14 : decode cJ7_copyOf_6403c 14 = .ok (.invokevirtual 90, 3) := by decide +kernel
theorem dJ7_copyOf_6403c_17 : decode cJ7_copyOf_6403c 17 = .ok (.iload_n 1, 1) := by decide +kernel
theorem dJ7_copyOf_6403c_18 : decode cJ7_copyOf_6403c 18 = .ok (.invokestatic 95, 3) := by decide +kernel
theorem dJ7_copyOf_6403c_21 : decode cJ7_copyOf_6403c 21 = .ok (.checkcast 110, 3) := by decide +kernel
theorem dJ7_copyOf_6403c_24 : decode cJ7_copyOf_6403c 24 = .ok (.astore_n 3, 1) := by decide +kernel
theorem dJ7_copyOf_6403c_25 : decode cJ7_copyOf_6403c 25 = .ok (.aload_n 0, 1) := by decide +kernel
theorem dJ7_copyOf_6403c_26 : decode cJ7_copyOf_6403c 26 = .ok (.iconst 0, 1) := by decide +kernel
theorem dJ7_copyOf_6403c_27 : decode cJ7_copyOf_6403c 27 = .ok (.aload_n 3, 1) := by decide +kernel
theorem dJ7_copyOf_6403c_28 : decode cJ7_copyOf_6403c 28 = .ok (.iconst 0, 1) := by decide +kernel
theorem dJ7_copyOf_6403c_29 : decode cJ7_copyOf_6403c 29 = .ok (.aload_n 0, 1) := by decide +kernel
theorem dJ7_copyOf_6403c_30 : decode cJ7_copyOf_6403c 30 = .ok (.arraylength, 1) := by decide +kernel
theorem dJ7_copyOf_6403c_31 : decode cJ7_copyOf_6403c 31 = .ok (.iload_n 1, 1) := by decide +kernel
theorem dJ7_copyOf_6403c_32 : decode cJ7_copyOf_6403c 32 = .ok (.invokestatic 304, 3) := by decide +kernel
theorem dJ7_copyOf_6403c_35 : decode cJ7_copyOf_6403c 35 = .ok (.invokestatic 150, 3) := by decide +kernel
theorem dJ7_copyOf_6403c_38 : decode cJ7_copyOf_6403c 38 = .ok (.aload_n 3, 1) := by decide +kernel
theorem dJ7_copyOf_6403c_39 : decode cJ7_copyOf_6403c 39 = .ok (.areturn, 1) := by decide +kernel
theorem dJ7_copyOf_9075b_0 : decode cJ7_copyOf_9075b 0 = .ok (.iload_n 1, 1) := by decide +kernel
theorem dJ7_copyOf_9075b_1 : decode cJ7_copyOf_9075b 1 = .ok (.aload_n 0, 1) := by decide +kernel
theorem dJ7_copyOf_9075b_2 : decode cJ7_copyOf_9075b 2 = .ok (.arraylength, 1) := by decide +kernel
theorem dJ7_copyOf_9075b_3 : decode cJ7_copyOf_9075b 3 = .ok (.if_icmp .ne 11, 3) := by decide +kernel
theorem dJ7_copyOf_9075b_6 : decode cJ7_copyOf_9075b 6 = .ok (.aload_n 0, 1) := by decide +kernel
theorem dJ7_copyOf_9075b_7 : decode cJ7_copyOf_9075b 7 = .ok (.invokevirtual 310, 3) := by decide +kernel
theorem dJ7_copyOf_9075b_10 : decode cJ7_copyOf_9075b 10 = .ok (.checkcast 311, 3) := by decide +kernel
theorem dJ7_copyOf_9075b_13 : decode cJ7_copyOf_9075b 13 = .ok (.areturn, 1) := by decide +kernel
theorem dJ7_copyOf_9075b_14 : decode cJ7_copyOf_9075b 14 = .ok (.iload_n 1, 1) := by decide +kernel
theorem dJ7_copyOf_9075b_15 : decode cJ7_copyOf_9075b 15 = .ok (.newarray .byte, 2) := by decide +kernel
theorem dJ7_copyOf_9075b_17 : decode cJ7_copyOf_9075b 17 = .ok (.astore_n 2, 1) := by decide +kernel
theorem dJ7_copyOf_9075b_18 : decode cJ7_copyOf_9075b 18 = .ok (.aload_n 0, 1) := by decide +kernel
theorem dJ7_copyOf_9075b_19 : decode cJ7_copyOf_9075b 19 = .ok (.iconst 0, 1) := by decide +kernel
theorem dJ7_copyOf_9075b_20 : decode cJ7_copyOf_9075b 20 = .ok (.aload_n 2, 1) := by decide +kernel
theorem dJ7_copyOf_9075b_21 : decode cJ7_copyOf_9075b 21 = .ok (.iconst 0, 1) := by decide +kernel
theorem dJ7_copyOf_9075b_22 : decode cJ7_copyOf_9075b 22 = .ok (.aload_n 0, 1) := by decide +kernel
theorem dJ7_copyOf_9075b_23 : decode cJ7_copyOf_9075b 23 = .ok (.arraylength, 1) := by decide +kernel
theorem dJ7_copyOf_9075b_24 : decode cJ7_copyOf_9075b 24 = .ok (.iload_n 1, 1) := by decide +kernel
theorem dJ7_copyOf_9075b_25 : decode cJ7_copyOf_9075b 25 = .ok (.invokestatic 304, 3) := by decide +kernel
theorem dJ7_copyOf_9075b_28 : decode cJ7_copyOf_9075b 28 = .ok (.invokestatic 150, 3) := by decide +kernel
theorem dJ7_copyOf_9075b_31 : decode cJ7_copyOf_9075b 31 = .ok (.aload_n 2, 1) := by decide +kernel
theorem dJ7_copyOf_9075b_32 : decode cJ7_copyOf_9075b 32 = .ok (.areturn, 1) := by decide +kernel
theorem dJ7_copyOf_59c91_0 : decode cJ7_copyOf_59c91 0 = .ok (.iload_n 1, 1) := by decide +kernel
theorem dJ7_copyOf_59c91_1 : decode cJ7_copyOf_59c91 1 = .ok (.aload_n 0, 1) := by decide +kernel
theorem dJ7_copyOf_59c91_2 : decode cJ7_copyOf_59c91 2 = .ok (.arraylength, 1) := by decide +kernel
theorem dJ7_copyOf_59c91_3 : decode cJ7_copyOf_59c91 3 = .ok (.if_icmp .ne 11, 3) := by decide +kernel
theorem dJ7_copyOf_59c91_6 : decode cJ7_copyOf_59c91 6 = .ok (.aload_n 0, 1) := by decide +kernel
theorem dJ7_copyOf_59c91_7 : decode cJ7_copyOf_59c91 7 = .ok (.invokevirtual 316, 3) := by decide +kernel
theorem dJ7_copyOf_59c91_10 : decode cJ7_copyOf_59c91 10 = .ok (.checkcast 317, 3) := by decide +kernel
theorem dJ7_copyOf_59c91_13 : decode cJ7_copyOf_59c91 13 = .ok (.areturn, 1) := by decide +kernel
theorem dJ7_copyOf_59c91_14 : decode cJ7_copyOf_59c91 14 = .ok (.iload_n 1, 1) := by decide +kernel
theorem dJ7_copyOf_59c91_15 : decode cJ7_copyOf_59c91 15 = .ok (.newarray .int, 2) := by decide +kernel
theorem dJ7_copyOf_59c91_17 : decode cJ7_copyOf_59c91 17 = .ok (.astore_n 2, 1) := by decide +kernel
theorem dJ7_copyOf_59c91_18 : decode cJ7_copyOf_59c91 18 = .ok (.aload_n 0, 1) := by decide +kernel
theorem dJ7_copyOf_59c91_19 : decode cJ7_copyOf_59c91 19 = .ok (.iconst 0, 1) := by decide +kernel
theorem dJ7_copyOf_59c91_20 : decode cJ7_copyOf_59c91 20 = .ok (.aload_n 2, 1) := by decide +kernel
theorem dJ7_copyOf_59c91_21 : decode cJ7_copyOf_59c91 21 = .ok (.iconst 0, 1) := by decide +kernel
theorem dJ7_copyOf_59c91_22 : decode cJ7_copyOf_59c91 22 = .ok (.aload_n 0, 1) := by decide +kernel
theorem dJ7_copyOf_59c91_23 : decode cJ7_copyOf_59c91 23 = .ok (.arraylength, 1) := by decide +kernel
theorem dJ7_copyOf_59c91_24 : decode cJ7_copyOf_59c91 24 = .ok (.iload_n 1, 1) := by decide +kernel
theorem dJ7_copyOf_59c91_25 : decode cJ7_copyOf_59c91 25 = .ok (.invokestatic 304, 3) := by decide +kernel
theorem dJ7_copyOf_59c91_28 : decode cJ7_copyOf_59c91 28 = .ok (.invokestatic 150, 3) := by decide +kernel
theorem dJ7_copyOf_59c91_31 : decode cJ7_copyOf_59c91 31 = .ok (.aload_n 2, 1) := by decide +kernel
theorem dJ7_copyOf_59c91_32 : decode cJ7_copyOf_59c91 32 = .ok (.areturn, 1) := by decide +kernel
theorem dJ7_checkLength_df160_0 : decode cJ7_checkLength_df160 0 = .ok (.iload_n 1, 1) := by decide +kernel
theorem dJ7_checkLength_df160_1 : decode cJ7_checkLength_df160 1 = .ok (.iload_n 0, 1) := by decide +kernel
theorem dJ7_checkLength_df160_2 : decode cJ7_checkLength_df160 2 = .ok (.if_icmp .ge 35, 3) := by decide +kernel
theorem dJ7_checkLength_df160_5 : decode cJ7_checkLength_df160 5 = .ok (.new 43, 3) := by decide +kernel
theorem dJ7_checkLength_df160_8 : decode cJ7_checkLength_df160 8 = .ok (.dup, 1) := by decide +kernel
theorem dJ7_checkLength_df160_9 : decode cJ7_checkLength_df160 9 = .ok (.new 45, 3) := by decide +kernel
theorem dJ7_checkLength_df160_12 : decode cJ7_checkLength_df160 12 = .ok (.dup, 1) := by decide +kernel
theorem dJ7_checkLength_df160_13 : decode cJ7_checkLength_df160 13 = .ok (.invokespecial 47, 3) := by decide +kernel
theorem dJ7_checkLength_df160_16 : decode cJ7_checkLength_df160 16 = .ok (.iload_n 0, 1) := by decide +kernel
theorem dJ7_checkLength_df160_17 : decode cJ7_checkLength_df160 17 = .ok (.invokevirtual 54, 3) := by decide +kernel
theorem dJ7_checkLength_df160_20 : decode cJ7_checkLength_df160 20 = .ok (.ldc_w 337, 3) := by decide +kernel
theorem dJ7_checkLength_df160_23 : decode cJ7_checkLength_df160 23 = .ok (.invokevirtual 50, 3) := by decide +kernel
theorem dJ7_checkLength_df160_26 : decode cJ7_checkLength_df160 26 = .ok (.iload_n 1, 1) := by decide +kernel
theorem dJ7_checkLength_df160_27 : decode cJ7_checkLength_df160 27 = .ok (.invokevirtual 54, 3) := by decide +kernel
theorem dJ7_checkLength_df160_30 : decode cJ7_checkLength_df160 30 = .ok (.invokevirtual 61, 3) := by decide +kernel
theorem dJ7_checkLength_df160_33 : decode cJ7_checkLength_df160 33 = .ok (.invokespecial 65, 3) := by decide +kernel
theorem dJ7_checkLength_df160_36 : decode cJ7_checkLength_df160 36 = .ok (.athrow, 1) := by decide +kernel
theorem dJ7_checkLength_df160_37 : decode cJ7_checkLength_df160 37 = .ok (.return_, 1) := by decide +kernel
theorem dJ7_copyOfRange_39247_0 : decode cJ7_copyOfRange_39247 0 = .ok (.iload_n 1, 1) := by decide +kernel
theorem dJ7_copyOfRange_39247_1 : decode cJ7_copyOfRange_39247 1 = .ok (.ifCond .ne 9, 3) := by decide +kernel
theorem dJ7_copyOfRange_39247_4 : decode cJ7_copyOfRange_39247 4 = .ok (.iload_n 2, 1) := by decide +kernel
theorem dJ7_copyOfRange_39247_5 : decode cJ7_copyOfRange_39247 5 = .ok (.aload_n 0, 1) := by decide +kernel
theorem dJ7_copyOfRange_39247_6 : decode cJ7_copyOfRange_39247 6 = .ok (.arraylength, 1) := by decide +kernel
theorem dJ7_copyOfRange_39247_7 : decode cJ7_copyOfRange_39247 7 = .ok (.if_icmp .eq 10, 3) := by decide +kernel
theorem dJ7_copyOfRange_39247_10 : decode cJ7_copyOfRange_39247 10 = .ok (.aload_n 0, 1) := by decide +kernel
theorem dJ7_copyOfRange_39247_11 : decode cJ7_copyOfRange_39247 11 = .ok (.iload_n 1, 1) := by decide +kernel
theorem dJ7_copyOfRange_39247_12 : decode cJ7_copyOfRange_39247 12 = .ok (.iload_n 2, 1) := by decide +kernel
theorem dJ7_copyOfRange_39247_13 : decode cJ7_copyOfRange_39247 13 = .ok (.invokestatic 339, 3) := by decide +kernel
theorem dJ7_copyOfRange_39247_16 : decode cJ7_copyOfRange_39247 16 = .ok (.areturn, 1) := by decide +kernel
theorem dJ7_copyOfRange_39247_17 : decode cJ7_copyOfRange_39247 17 = .ok (.aload_n 0, 1) := by decide +kernel
theorem dJ7_copyOfRange_39247_18 : decode cJ7_copyOfRange_39247 18 = .ok (.invokevirtual 310, 3) := by decide +kernel
theorem dJ7_copyOfRange_39247_21 : decode cJ7_copyOfRange_39247 21 = .ok (.checkcast 311, 3) := by decide +kernel
theorem dJ7_copyOfRange_39247_24 : decode cJ7_copyOfRange_39247 24 = .ok (.areturn, 1) := by decide +kernel
theorem dJ7_copyOfRangeByte_39247_0 : decode cJ7_copyOfRangeByte_39247 0 = .ok (.iload_n 1, 1) := by decide +kernel
theorem dJ7_copyOfRangeByte_39247_1 : decode cJ7_copyOfRangeByte_39247 1 = .ok (.iload_n 2, 1) := by decide +kernel
theorem dJ7_copyOfRangeByte_39247_2 : decode cJ7_copyOfRangeByte_39247 2 = .ok (.invokestatic 343, 3) := by decide +kernel
theorem dJ7_copyOfRangeByte_39247_5 : decode cJ7_copyOfRangeByte_39247 5 = .ok (.iload_n 2, 1) := by decide +kernel
theorem dJ7_copyOfRangeByte_39247_6 : decode cJ7_copyOfRangeByte_39247 6 = .ok (.iload_n 1, 1) := by decide +kernel
theorem dJ7_copyOfRangeByte_39247_7 : decode cJ7_copyOfRangeByte_39247 7 = .ok (.isub, 1) := by decide +kernel
theorem dJ7_copyOfRangeByte_39247_8 : decode cJ7_copyOfRangeByte_39247 8 = .ok (.istore_n 3, 1) := by decide +kernel
theorem dJ7_copyOfRangeByte_39247_9 : decode cJ7_copyOfRangeByte_39247 9 = .ok (.iload_n 3, 1) := by decide +kernel
theorem dJ7_copyOfRangeByte_39247_10 : decode cJ7_copyOfRangeByte_39247 10 = .ok (.newarray .byte, 2) := by decide +kernel
theorem dJ7_copyOfRangeByte_39247_12 : decode cJ7_copyOfRangeByte_39247 12 = .ok (.astore 4, 2) := by decide +kernel
theorem dJ7_copyOfRangeByte_39247_14 : decode cJ7_copyOfRangeByte_39247 14 = .ok (.aload_n 0, 1) := by decide +kernel
theorem dJ7_copyOfRangeByte_39247_15 : decode cJ7_copyOfRangeByte_39247 15 = .ok (.iload_n 1, 1) := by decide +kernel
theorem dJ7_copyOfRangeByte_39247_16 : decode cJ7_copyOfRangeByte_39247 16 = .ok (.aload 4, 2) := by decide +kernel
theorem dJ7_copyOfRangeByte_39247_18 : decode cJ7_copyOfRangeByte_39247 18 = .ok (.iconst 0, 1) := by decide +kernel
theorem dJ7_copyOfRangeByte_39247_19 : decode cJ7_copyOfRangeByte_39247 19 = .ok (.aload_n 0, 1) := by decide +kernel
theorem dJ7_copyOfRangeByte_39247_20 : decode cJ7_copyOfRangeByte_39247 20 = .ok (.arraylength, 1) := by decide +kernel
theorem dJ7_copyOfRangeByte_39247_21 : decode cJ7_copyOfRangeByte_39247 21 = .ok (.iload_n 1, 1) := by decide +kernel
theorem dJ7_copyOfRangeByte_39247_22 : decode cJ7_copyOfRangeByte_39247 22 = .ok (.isub, 1) := by decide +kernel
theorem dJ7_copyOfRangeByte_39247_23 : decode cJ7_copyOfRangeByte_39247 23 = .ok (.iload_n 3, 1) := by decide +kernel
theorem dJ7_copyOfRangeByte_39247_24 : decode cJ7_copyOfRangeByte_39247 24 = .ok (.invokestatic 304, 3) := by decide +kernel
theorem dJ7_copyOfRangeByte_39247_27 : decode cJ7_copyOfRangeByte_39247 27 = .ok (.invokestatic 150, 3) := by decide +kernel
theorem dJ7_copyOfRangeByte_39247_30 : decode cJ7_copyOfRangeByte_39247 30 = .ok (.aload 4, 2) := by decide +kernel
theorem dJ7_copyOfRangeByte_39247_32 : decode cJ7_copyOfRangeByte_39247 32 = .ok (.areturn, 1) := by decide +kernel
theorem dJ15_checkIndex_7cf53_0 : decode cJ15_checkIndex_7cf53 0 = .ok (.iload_n 0, 1) := by decide +kernel
theorem dJ15_checkIndex_7cf53_1 : decode cJ15_checkIndex_7cf53 1 = .ok (.iload_n 1, 1) := by decide +kernel
theorem dJ15_checkIndex_7cf53_2 : decode cJ15_checkIndex_7cf53 2 = .ok (.aconst_null, 1) := by decide +kernel
theorem dJ15_checkIndex_7cf53_3 : decode cJ15_checkIndex_7cf53 3 = .ok (.invokestatic 105, 3) := by decide +kernel
theorem dJ15_checkIndex_7cf53_6 : decode cJ15_checkIndex_7cf53 6 = .ok (.ireturn, 1) := by decide +kernel
theorem dJ8_newLength_cabcc_0 : decode cJ8_newLength_cabcc 0 = .ok (.iload_n 0, 1) := by decide +kernel
theorem dJ8_newLength_cabcc_1 : decode cJ8_newLength_cabcc 1 = .ok (.iload_n 1, 1) := by decide +kernel
theorem dJ8_newLength_cabcc_2 : decode cJ8_newLength_cabcc 2 = .ok (.iload_n 2, 1) := by decide +kernel
theorem dJ8_newLength_cabcc_3 : decode cJ8_newLength_cabcc 3 = .ok (.invokestatic 194, 3) := by decide +kernel
theorem dJ8_newLength_cabcc_6 : decode cJ8_newLength_cabcc 6 = .ok (.iadd, 1) := by decide +kernel
theorem dJ8_newLength_cabcc_7 : decode cJ8_newLength_cabcc 7 = .ok (.istore_n 3, 1) := by decide +kernel
theorem dJ8_newLength_cabcc_8 : decode cJ8_newLength_cabcc 8 = .ok (.iconst 0, 1) := by decide +kernel
theorem dJ8_newLength_cabcc_9 : decode cJ8_newLength_cabcc 9 = .ok (.iload_n 3, 1) := by decide +kernel
theorem dJ8_newLength_cabcc_10 : decode cJ8_newLength_cabcc 10 = .ok (.if_icmp .ge 11, 3) := by decide +kernel
theorem dJ8_newLength_cabcc_13 : decode cJ8_newLength_cabcc 13 = .ok (.iload_n 3, 1) := by decide +kernel
theorem dJ8_newLength_cabcc_14 : decode cJ8_newLength_cabcc 14 = .ok (.ldc 200, 2) := by decide +kernel
theorem dJ8_newLength_cabcc_16 : decode cJ8_newLength_cabcc 16 = .ok (.if_icmp .gt 5, 3) := by decide +kernel
theorem dJ8_newLength_cabcc_19 : decode cJ8_newLength_cabcc 19 = .ok (.iload_n 3, 1) := by decide +kernel
theorem dJ8_newLength_cabcc_20 : decode cJ8_newLength_cabcc 20 = .ok (.ireturn, 1) := by decide +kernel
theorem dJ8_newLength_cabcc_21 : decode cJ8_newLength_cabcc 21 = .ok (.iload_n 0, 1) := by decide +kernel
theorem dJ8_newLength_cabcc_22 : decode cJ8_newLength_cabcc 22 = .ok (.iload_n 1, 1) := by decide +kernel
theorem dJ8_newLength_cabcc_23 : decode cJ8_newLength_cabcc 23 = .ok (.invokestatic 201, 3) := by decide +kernel
theorem dJ8_newLength_cabcc_26 : decode cJ8_newLength_cabcc 26 = .ok (.ireturn, 1) := by decide +kernel
theorem dJ8_hugeLength_7cf53_0 : decode cJ8_hugeLength_7cf53 0 = .ok (.iload_n 0, 1) := by decide +kernel
theorem dJ8_hugeLength_7cf53_1 : decode cJ8_hugeLength_7cf53 1 = .ok (.iload_n 1, 1) := by decide +kernel
theorem dJ8_hugeLength_7cf53_2 : decode cJ8_hugeLength_7cf53 2 = .ok (.iadd, 1) := by decide +kernel
theorem dJ8_hugeLength_7cf53_3 : decode cJ8_hugeLength_7cf53 3 = .ok (.istore_n 2, 1) := by decide +kernel
theorem dJ8_hugeLength_7cf53_4 : decode cJ8_hugeLength_7cf53 4 = .ok (.iload_n 2, 1) := by decide +kernel
theorem dJ8_hugeLength_7cf53_5 : decode cJ8_hugeLength_7cf53 5 = .ok (.ifCond .ge 44, 3) := by decide +kernel
theorem dJ8_hugeLength_7cf53_8 : decode cJ8_hugeLength_7cf53 8 = .ok (.new 204, 3) := by decide +kernel
theorem dJ8_hugeLength_7cf53_11 : decode cJ8_hugeLength_7cf53 11 = .ok (.dup, 1) := by decide +kernel
theorem dJ8_hugeLength_7cf53_12 : decode cJ8_hugeLength_7cf53 12 = .ok (.new 89, 3) := by decide +kernel
theorem dJ8_hugeLength_7cf53_15 : decode cJ8_hugeLength_7cf53 15 = .ok (.dup, 1) := by decide +kernel
theorem dJ8_hugeLength_7cf53_16 : decode cJ8_hugeLength_7cf53 16 = .ok (.invokespecial 91, 3) := by decide +kernel
theorem dJ8_hugeLength_7cf53_19 : decode cJ8_hugeLength_7cf53 19 = .ok (.ldc 206, 2) := by decide +kernel
theorem dJ8_hugeLength_7cf53_21 : decode cJ8_hugeLength_7cf53 21 = .ok (.invokevirtual 94, 3) := by decide +kernel
theorem dJ8_hugeLength_7cf53_24 : decode cJ8_hugeLength_7cf53 24 = .ok (.iload_n 0, 1) := by decide +kernel
theorem dJ8_hugeLength_7cf53_25 : decode cJ8_hugeLength_7cf53 25 = .ok (.invokevirtual 98, 3) := by decide +kernel
theorem dJ8_hugeLength_7cf53_28 : decode cJ8_hugeLength_7cf53 28 = .ok (.ldc 208, 2) := by decide +kernel
theorem dJ8_hugeLength_7cf53_30 : decode cJ8_hugeLength_7cf53 30 = .ok (.invokevirtual 94, 3) := by decide +kernel
theorem dJ8_hugeLength_7cf53_33 : decode cJ8_hugeLength_7cf53 33 = .ok (.iload_n 1, 1) := by decide +kernel
theorem dJ8_hugeLength_7cf53_34 : decode cJ8_hugeLength_7cf53 34 = .ok (.invokevirtual 98, 3) := by decide +kernel
theorem dJ8_hugeLength_7cf53_37 : decode cJ8_hugeLength_7cf53 37 = .ok (.ldc 210, 2) := by decide +kernel
theorem dJ8_hugeLength_7cf53_39 : decode cJ8_hugeLength_7cf53 39 = .ok (.invokevirtual 94, 3) := by decide +kernel
theorem dJ8_hugeLength_7cf53_42 : decode cJ8_hugeLength_7cf53 42 = .ok (.invokevirtual 101, 3) := by decide +kernel
theorem dJ8_hugeLength_7cf53_45 : decode cJ8_hugeLength_7cf53 45 = .ok (.invokespecial 212, 3) := by decide +kernel
theorem dJ8_hugeLength_7cf53_48 : decode cJ8_hugeLength_7cf53 48 = .ok (.athrow, 1) := by decide +kernel
theorem dJ8_hugeLength_7cf53_49 : decode cJ8_hugeLength_7cf53 49 = .ok (.iload_n 2, 1) := by decide +kernel
theorem dJ8_hugeLength_7cf53_50 : decode cJ8_hugeLength_7cf53 50 = .ok (.ldc 200, 2) := by decide +kernel
theorem dJ8_hugeLength_7cf53_52 : decode cJ8_hugeLength_7cf53 52 = .ok (.if_icmp .gt 6, 3) := by decide +kernel
theorem dJ8_hugeLength_7cf53_55 : decode cJ8_hugeLength_7cf53 55 = .ok (.ldc 200, 2) := by decide +kernel
theorem dJ8_hugeLength_7cf53_57 : decode cJ8_hugeLength_7cf53 57 = .ok (.ireturn, 1) := by decide +kernel
theorem dJ8_hugeLength_7cf53_58 : decode cJ8_hugeLength_7cf53 58 = .ok (.iload_n 2, 1) := by decide +kernel
theorem dJ8_hugeLength_7cf53_59 : decode cJ8_hugeLength_7cf53 59 = .ok (.ireturn, 1) := by decide +kernel
theorem dJ3_checkIndex_8e157_0 : decode cJ3_checkIndex_8e157 0 = .ok (.iload_n 0, 1) := by decide +kernel
theorem dJ3_checkIndex_8e157_1 : decode cJ3_checkIndex_8e157 1 = .ok (.ifCond .lt 8, 3) := by decide +kernel
theorem dJ3_checkIndex_8e157_4 : decode cJ3_checkIndex_8e157 4 = .ok (.iload_n 0, 1) := by decide +kernel
theorem dJ3_checkIndex_8e157_5 : decode cJ3_checkIndex_8e157 5 = .ok (.iload_n 1, 1) := by decide +kernel
theorem dJ3_checkIndex_8e157_6 : decode cJ3_checkIndex_8e157 6 = .ok (.if_icmp .lt 10, 3) := by decide +kernel
theorem dJ3_checkIndex_8e157_9 : decode cJ3_checkIndex_8e157 9 = .ok (.aload_n 2, 1) := by decide +kernel
theorem dJ3_checkIndex_8e157_10 : decode cJ3_checkIndex_8e157 10 = .ok (.iload_n 0, 1) := by decide +kernel
theorem dJ3_checkIndex_8e157_11 : decode cJ3_checkIndex_8e157 11 = .ok (.iload_n 1, 1) := by decide +kernel
theorem dJ3_checkIndex_8e157_12 : decode cJ3_checkIndex_8e157 12 = .ok (.invokestatic 95, 3) := by decide +kernel
theorem dJ3_checkIndex_8e157_15 : decode cJ3_checkIndex_8e157 15 = .ok (.athrow, 1) := by decide +kernel
theorem dJ3_checkIndex_8e157_16 : decode cJ3_checkIndex_8e157 16 = .ok (.iload_n 0, 1) := by decide +kernel
theorem dJ3_checkIndex_8e157_17 : decode cJ3_checkIndex_8e157 17 = .ok (.ireturn, 1) := by decide +kernel
theorem dJ3_checkFromToIndex_8c36e_0 : decode cJ3_checkFromToIndex_8c36e 0 = .ok (.iload_n 0, 1) := by decide +kernel
theorem dJ3_checkFromToIndex_8c36e_1 : decode cJ3_checkFromToIndex_8c36e 1 = .ok (.ifCond .lt 13, 3) := by decide +kernel
theorem dJ3_checkFromToIndex_8c36e_4 : decode cJ3_checkFromToIndex_8c36e 4 = .ok (.iload_n 0, 1) := by decide +kernel
theorem dJ3_checkFromToIndex_8c36e_5 : decode cJ3_checkFromToIndex_8c36e 5 = .ok (.iload_n 1, 1) := by decide +kernel
theorem dJ3_checkFromToIndex_8c36e_6 : decode cJ3_checkFromToIndex_8c36e 6 = .ok (.if_icmp .gt 8, 3) := by decide +kernel
theorem dJ3_checkFromToIndex_8c36e_9 : decode cJ3_checkFromToIndex_8c36e 9 = .ok (.iload_n 1, 1) := by decide +kernel
theorem dJ3_checkFromToIndex_8c36e_10 : decode cJ3_checkFromToIndex_8c36e 10 = .ok (.iload_n 2, 1) := by decide +kernel
theorem dJ3_checkFromToIndex_8c36e_11 : decode cJ3_checkFromToIndex_8c36e 11 = .ok (.if_icmp .le 11, 3) := by decide +kernel
theorem dJ3_checkFromToIndex_8c36e_14 : decode cJ3_checkFromToIndex_8c36e 14 = .ok (.aload_n 3, 1) := by decide +kernel
theorem dJ3_checkFromToIndex_8c36e_15 : decode cJ3_checkFromToIndex_8c36e 15 = .ok (.iload_n 0, 1) := by decide +kernel
theorem dJ3_checkFromToIndex_8c36e_16 : decode cJ3_checkFromToIndex_8c36e 16 = .ok (.iload_n 1, 1) := by decide +kernel
theorem dJ3_checkFromToIndex_8c36e_17 : decode cJ3_checkFromToIndex_8c36e 17 = .ok (.iload_n 2, 1) := by decide +kernel
theorem dJ3_checkFromToIndex_8c36e_18 : decode cJ3_checkFromToIndex_8c36e 18 = .ok (.invokestatic 99, 3) := by decide +kernel
theorem dJ3_checkFromToIndex_8c36e_21 : decode cJ3_checkFromToIndex_8c36e 21 = .ok (.athrow, 1) := by decide +kernel
theorem dJ3_checkFromToIndex_8c36e_22 : decode cJ3_checkFromToIndex_8c36e 22 = .ok (.iload_n 0, 1) := by decide +kernel
theorem dJ3_checkFromToIndex_8c36e_23 : decode cJ3_checkFromToIndex_8c36e 23 = .ok (.ireturn, 1) := by decide +kernel
theorem dJ3_checkFromIndexSize_8c36e_0 : decode cJ3_checkFromIndexSize_8c36e 0 = .ok (.iload_n 2, 1) := by decide +kernel
theorem dJ3_checkFromIndexSize_8c36e_1 : decode cJ3_checkFromIndexSize_8c36e 1 = .ok (.iload_n 0, 1) := by decide +kernel
theorem dJ3_checkFromIndexSize_8c36e_2 : decode cJ3_checkFromIndexSize_8c36e 2 = .ok (.ior, 1) := by decide +kernel
theorem dJ3_checkFromIndexSize_8c36e_3 : decode cJ3_checkFromIndexSize_8c36e 3 = .ok (.iload_n 1, 1) := by decide +kernel
theorem dJ3_checkFromIndexSize_8c36e_4 : decode cJ3_checkFromIndexSize_8c36e 4 = .ok (.ior, 1) := by decide +kernel
theorem dJ3_checkFromIndexSize_8c36e_5 : decode cJ3_checkFromIndexSize_8c36e 5 = .ok (.ifCond .lt 10, 3) := by decide +kernel
theorem dJ3_checkFromIndexSize_8c36e_8 : decode cJ3_checkFromIndexSize_8c36e 8 = .ok (.iload_n 1, 1) := by decide +kernel
theorem dJ3_checkFromIndexSize_8c36e_9 : decode cJ3_checkFromIndexSize_8c36e 9 = .ok (.iload_n 2, 1) := by decide +kernel
theorem dJ3_checkFromIndexSize_8c36e_10 : decode cJ3_checkFromIndexSize_8c36e 10 = .ok (.iload_n 0, 1) := by decide +kernel
theorem dJ3_checkFromIndexSize_8c36e_11 : decode cJ3_checkFromIndexSize_8c36e 11 = .ok (.isub, 1) := by decide +kernel
theorem dJ3_checkFromIndexSize_8c36e_12 : decode cJ3_checkFromIndexSize_8c36e 12 = .ok (.if_icmp .le 11, 3) := by decide +kernel
theorem dJ3_checkFromIndexSize_8c36e_15 : decode cJ3_checkFromIndexSize_8c36e 15 = .ok (.aload_n 3, 1) := by decide +kernel
theorem dJ3_checkFromIndexSize_8c36e_16 : decode cJ3_checkFromIndexSize_8c36e 16 = .ok (.iload_n 0, 1) := by decide +kernel
theorem dJ3_checkFromIndexSize_8c36e_17 : decode cJ3_checkFromIndexSize_8c36e 17 = .ok (.iload_n 1, 1) := by decide +kernel
theorem dJ3_checkFromIndexSize_8c36e_18 : decode cJ3_checkFromIndexSize_8c36e 18 = .ok (.iload_n 2, 1) := by decide +kernel
theorem dJ3_checkFromIndexSize_8c36e_19 : decode cJ3_checkFromIndexSize_8c36e 19 = .ok (.invokestatic 103, 3) := by decide +kernel
theorem dJ3_checkFromIndexSize_8c36e_22 : decode cJ3_checkFromIndexSize_8c36e 22 = .ok (.athrow, 1) := by decide +kernel
theorem dJ3_checkFromIndexSize_8c36e_23 : decode cJ3_checkFromIndexSize_8c36e 23 = .ok (.iload_n 0, 1) := by decide +kernel
theorem dJ3_checkFromIndexSize_8c36e_24 : decode cJ3_checkFromIndexSize_8c36e 24 = .ok (.ireturn, 1) := by decide +kernel
