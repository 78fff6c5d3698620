theorem dL_cell_0 : decode cL_cell 0 = .ok (.iload_n 1, 1) := by decide +kernel
theorem dL_cell_1 : decode cL_cell 1 = .ok (.aload_n 0, 1) := by decide +kernel
theorem dL_cell_2 : decode cL_cell 2 = .ok (.arraylength, 1) := by decide +kernel
theorem dL_cell_3 : decode cL_cell 3 = .ok (.if_icmp .ge 9, 3) := by decide +kernel
theorem dL_cell_6 : decode cL_cell 6 = .ok (.aload_n 0, 1) := by decide +kernel
theorem dL_cell_7 : decode cL_cell 7 = .ok (.iload_n 1, 1) := by decide +kernel
theorem dL_cell_8 : decode cL_cell 8 = .ok (.iaload, 1) := by decide +kernel
theorem dL_cell_9 : decode cL_cell 9 = .ok (.goto 10, 3) := by decide +kernel
theorem dL_cell_12 : decode cL_cell 12 = .ok (.ldc 7, 2) := by decide +kernel
theorem dL_cell_14 : decode cL_cell 14 = .ok (.iload_n 1, 1) := by decide +kernel
theorem dL_cell_15 : decode cL_cell 15 = .ok (.bipush 8, 2) := by decide +kernel
theorem dL_cell_17 : decode cL_cell 17 = .ok (.iadd, 1) := by decide +kernel
theorem dL_cell_18 : decode cL_cell 18 = .ok (.imul, 1) := by decide +kernel
theorem dL_cell_19 : decode cL_cell 19 = .ok (.ireturn, 1) := by decide +kernel
theorem dL_low_0 : decode cL_low 0 = .ok (.iload_n 0, 1) := by decide +kernel
theorem dL_low_1 : decode cL_low 1 = .ok (.iconst 1, 1) := by decide +kernel
theorem dL_low_2 : decode cL_low 2 = .ok (.iushr, 1) := by decide +kernel
theorem dL_low_3 : decode cL_low 3 = .ok (.iload_n 1, 1) := by decide +kernel
theorem dL_low_4 : decode cL_low 4 = .ok (.irem, 1) := by decide +kernel
theorem dL_low_5 : decode cL_low 5 = .ok (.ireturn, 1) := by decide +kernel
theorem dL_get_0 : decode cL_get 0 = .ok (.aload_n 0, 1) := by decide +kernel
theorem dL_get_1 : decode cL_get 1 = .ok (.iload_n 1, 1) := by decide +kernel
theorem dL_get_2 : decode cL_get 2 = .ok (.iconst 2, 1) := by decide +kernel
theorem dL_get_3 : decode cL_get 3 = .ok (.ishr, 1) := by decide +kernel
theorem dL_get_4 : decode cL_get 4 = .ok (.laload, 1) := by decide +kernel
theorem dL_get_5 : decode cL_get 5 = .ok (.bipush 16, 2) := by decide +kernel
theorem dL_get_7 : decode cL_get 7 = .ok (.iload_n 1, 1) := by decide +kernel
theorem dL_get_8 : decode cL_get 8 = .ok (.iconst 3, 1) := by decide +kernel
theorem dL_get_9 : decode cL_get 9 = .ok (.iand, 1) := by decide +kernel
theorem dL_get_10 : decode cL_get 10 = .ok (.imul, 1) := by decide +kernel
theorem dL_get_11 : decode cL_get 11 = .ok (.lshr, 1) := by decide +kernel
theorem dL_get_12 : decode cL_get 12 = .ok (.ldc2_w 113, 3) := by decide +kernel
theorem dL_get_15 : decode cL_get 15 = .ok (.land, 1) := by decide +kernel
theorem dL_get_16 : decode cL_get 16 = .ok (.l2i, 1) := by decide +kernel
theorem dL_get_17 : decode cL_get 17 = .ok (.ireturn, 1) := by decide +kernel
theorem dL_set_0 : decode cL_set 0 = .ok (.aload_n 0, 1) := by decide +kernel
theorem dL_set_1 : decode cL_set 1 = .ok (.iload_n 1, 1) := by decide +kernel
theorem dL_set_2 : decode cL_set 2 = .ok (.iconst 2, 1) := by decide +kernel
theorem dL_set_3 : decode cL_set 3 = .ok (.ishr, 1) := by decide +kernel
theorem dL_set_4 : decode cL_set 4 = .ok (.aload_n 0, 1) := by decide +kernel
theorem dL_set_5 : decode cL_set 5 = .ok (.iload_n 1, 1) := by decide +kernel
theorem dL_set_6 : decode cL_set 6 = .ok (.iconst 2, 1) := by decide +kernel
theorem dL_set_7 : decode cL_set 7 = .ok (.ishr, 1) := by decide +kernel
theorem dL_set_8 : decode cL_set 8 = .ok (.laload, 1) := by decide +kernel
theorem dL_set_9 : decode cL_set 9 = .ok (.ldc2_w 113, 3) := by decide +kernel
theorem dL_set_12 : decode cL_set 12 = .ok (.bipush 16, 2) := by decide +kernel
theorem dL_set_14 : decode cL_set 14 = .ok (.iload_n 1, 1) := by decide +kernel
theorem dL_set_15 : decode cL_set 15 = .ok (.iconst 3, 1) := by decide +kernel
theorem dL_set_16 : decode cL_set 16 = .ok (.iand, 1) := by decide +kernel
theorem dL_set_17 : decode cL_set 17 = .ok (.imul, 1) := by decide +kernel
theorem dL_set_18 : decode cL_set 18 = .ok (.lshl, 1) := by decide +kernel
theorem dL_set_19 : decode cL_set 19 = .ok (.ldc2_w 115, 3) := by decide +kernel
theorem dL_set_22 : decode cL_set 22 = .ok (.lxor, 1) := by decide +kernel
theorem dL_set_23 : decode cL_set 23 = .ok (.land, 1) := by decide +kernel
theorem dL_set_24 : decode cL_set 24 = .ok (.iload_n 2, 1) := by decide +kernel
theorem dL_set_25 : decode cL_set 25 = .ok (.i2l, 1) := by decide +kernel
theorem dL_set_26 : decode cL_set 26 = .ok (.bipush 16, 2) := by decide +kernel
theorem dL_set_28 : decode cL_set 28 = .ok (.iload_n 1, 1) := by decide +kernel
theorem dL_set_29 : decode cL_set 29 = .ok (.iconst 3, 1) := by decide +kernel
theorem dL_set_30 : decode cL_set 30 = .ok (.iand, 1) := by decide +kernel
theorem dL_set_31 : decode cL_set 31 = .ok (.imul, 1) := by decide +kernel
theorem dL_set_32 : decode cL_set 32 = .ok (.lshl, 1) := by decide +kernel
theorem dL_set_33 : decode cL_set 33 = .ok (.lor, 1) := by decide +kernel
theorem dL_set_34 : decode cL_set 34 = .ok (.lastore, 1) := by decide +kernel
theorem dL_set_35 : decode cL_set 35 = .ok (.return_, 1) := by decide +kernel
theorem dL_go_0 : decode cL_go 0 = .ok (.iconst 1, 1) := by decide +kernel
theorem dL_go_1 : decode cL_go 1 = .ok (.iload_n 3, 1) := by decide +kernel
theorem dL_go_2 : decode cL_go 2 = .ok (.isub, 1) := by decide +kernel
theorem dL_go_3 : decode cL_go 3 = .ok (.istore 6, 2) := by decide +kernel
theorem dL_go_5 : decode cL_go 5 = .ok (.iload 6, 2) := by decide +kernel
theorem dL_go_7 : decode cL_go 7 = .ok (.ifCond .ne 7, 3) := by decide +kernel
theorem dL_go_10 : decode cL_go 10 = .ok (.aload_n 1, 1) := by decide +kernel
theorem dL_go_11 : decode cL_go 11 = .ok (.goto 4, 3) := by decide +kernel
theorem dL_go_14 : decode cL_go 14 = .ok (.aload_n 2, 1) := by decide +kernel
theorem dL_go_15 : decode cL_go 15 = .ok (.aload_n 0, 1) := by decide +kernel
theorem dL_go_16 : decode cL_go 16 = .ok (.bipush 16, 2) := by decide +kernel
theorem dL_go_18 : decode cL_go 18 = .ok (.iload 6, 2) := by decide +kernel
theorem dL_go_20 : decode cL_go 20 = .ok (.iadd, 1) := by decide +kernel
theorem dL_go_21 : decode cL_go 21 = .ok (.iaload, 1) := by decide +kernel
theorem dL_go_22 : decode cL_go 22 = .ok (.iload 4, 2) := by decide +kernel
theorem dL_go_24 : decode cL_go 24 = .ok (.bipush 64, 2) := by decide +kernel
theorem dL_go_26 : decode cL_go 26 = .ok (.iload 5, 2) := by decide +kernel
theorem dL_go_28 : decode cL_go 28 = .ok (.imul, 1) := by decide +kernel
theorem dL_go_29 : decode cL_go 29 = .ok (.iadd, 1) := by decide +kernel
theorem dL_go_30 : decode cL_go 30 = .ok (.invokestatic 117, 3) := by decide +kernel
theorem dL_go_33 : decode cL_go 33 = .ok (.aload_n 0, 1) := by decide +kernel
theorem dL_go_34 : decode cL_go 34 = .ok (.bipush 16, 2) := by decide +kernel
theorem dL_go_36 : decode cL_go 36 = .ok (.iload 6, 2) := by decide +kernel
theorem dL_go_38 : decode cL_go 38 = .ok (.iadd, 1) := by decide +kernel
theorem dL_go_39 : decode cL_go 39 = .ok (.dup2, 1) := by decide +kernel
theorem dL_go_40 : decode cL_go 40 = .ok (.iaload, 1) := by decide +kernel
theorem dL_go_41 : decode cL_go 41 = .ok (.iconst 1, 1) := by decide +kernel
theorem dL_go_42 : decode cL_go 42 = .ok (.iadd, 1) := by decide +kernel
theorem dL_go_43 : decode cL_go 43 = .ok (.iastore, 1) := by decide +kernel
theorem dL_go_44 : decode cL_go 44 = .ok (.aload_n 0, 1) := by decide +kernel
theorem dL_go_45 : decode cL_go 45 = .ok (.bipush 12, 2) := by decide +kernel
theorem dL_go_47 : decode cL_go 47 = .ok (.iload_n 3, 1) := by decide +kernel
theorem dL_go_48 : decode cL_go 48 = .ok (.iadd, 1) := by decide +kernel
theorem dL_go_49 : decode cL_go 49 = .ok (.aload_n 0, 1) := by decide +kernel
theorem dL_go_50 : decode cL_go 50 = .ok (.iconst 0, 1) := by decide +kernel
theorem dL_go_51 : decode cL_go 51 = .ok (.iaload, 1) := by decide +kernel
theorem dL_go_52 : decode cL_go 52 = .ok (.iastore, 1) := by decide +kernel
theorem dL_go_53 : decode cL_go 53 = .ok (.return_, 1) := by decide +kernel
theorem dL_send_0 : decode cL_send 0 = .ok (.aload_n 0, 1) := by decide +kernel
theorem dL_send_1 : decode cL_send 1 = .ok (.iconst 4, 1) := by decide +kernel
theorem dL_send_2 : decode cL_send 2 = .ok (.iload 5, 2) := by decide +kernel
theorem dL_send_4 : decode cL_send 4 = .ok (.iadd, 1) := by decide +kernel
theorem dL_send_5 : decode cL_send 5 = .ok (.dup2, 1) := by decide +kernel
theorem dL_send_6 : decode cL_send 6 = .ok (.iaload, 1) := by decide +kernel
theorem dL_send_7 : decode cL_send 7 = .ok (.iconst 1, 1) := by decide +kernel
theorem dL_send_8 : decode cL_send 8 = .ok (.iadd, 1) := by decide +kernel
theorem dL_send_9 : decode cL_send 9 = .ok (.iastore, 1) := by decide +kernel
theorem dL_send_10 : decode cL_send 10 = .ok (.iload 5, 2) := by decide +kernel
theorem dL_send_12 : decode cL_send 12 = .ok (.ifCond .ne 7, 3) := by decide +kernel
theorem dL_send_15 : decode cL_send 15 = .ok (.aload_n 3, 1) := by decide +kernel
theorem dL_send_16 : decode cL_send 16 = .ok (.goto 5, 3) := by decide +kernel
theorem dL_send_19 : decode cL_send 19 = .ok (.aload 4, 2) := by decide +kernel
theorem dL_send_21 : decode cL_send 21 = .ok (.aload_n 0, 1) := by decide +kernel
theorem dL_send_22 : decode cL_send 22 = .ok (.iconst 4, 1) := by decide +kernel
theorem dL_send_23 : decode cL_send 23 = .ok (.iload 5, 2) := by decide +kernel
theorem dL_send_25 : decode cL_send 25 = .ok (.iadd, 1) := by decide +kernel
theorem dL_send_26 : decode cL_send 26 = .ok (.iaload, 1) := by decide +kernel
theorem dL_send_27 : decode cL_send 27 = .ok (.iload 6, 2) := by decide +kernel
theorem dL_send_29 : decode cL_send 29 = .ok (.i2l, 1) := by decide +kernel
theorem dL_send_30 : decode cL_send 30 = .ok (.iload 7, 2) := by decide +kernel
theorem dL_send_32 : decode cL_send 32 = .ok (.i2l, 1) := by decide +kernel
theorem dL_send_33 : decode cL_send 33 = .ok (.iconst 5, 1) := by decide +kernel
theorem dL_send_34 : decode cL_send 34 = .ok (.lshl, 1) := by decide +kernel
theorem dL_send_35 : decode cL_send 35 = .ok (.ladd, 1) := by decide +kernel
theorem dL_send_36 : decode cL_send 36 = .ok (.iload 8, 2) := by decide +kernel
theorem dL_send_38 : decode cL_send 38 = .ok (.i2l, 1) := by decide +kernel
theorem dL_send_39 : decode cL_send 39 = .ok (.bipush 13, 2) := by decide +kernel
theorem dL_send_41 : decode cL_send 41 = .ok (.lshl, 1) := by decide +kernel
theorem dL_send_42 : decode cL_send 42 = .ok (.ladd, 1) := by decide +kernel
theorem dL_send_43 : decode cL_send 43 = .ok (.iload 9, 2) := by decide +kernel
theorem dL_send_45 : decode cL_send 45 = .ok (.i2l, 1) := by decide +kernel
theorem dL_send_46 : decode cL_send 46 = .ok (.bipush 21, 2) := by decide +kernel
theorem dL_send_48 : decode cL_send 48 = .ok (.lshl, 1) := by decide +kernel
theorem dL_send_49 : decode cL_send 49 = .ok (.ladd, 1) := by decide +kernel
theorem dL_send_50 : decode cL_send 50 = .ok (.iload 10, 2) := by decide +kernel
theorem dL_send_52 : decode cL_send 52 = .ok (.i2l, 1) := by decide +kernel
theorem dL_send_53 : decode cL_send 53 = .ok (.bipush 29, 2) := by decide +kernel
theorem dL_send_55 : decode cL_send 55 = .ok (.lshl, 1) := by decide +kernel
theorem dL_send_56 : decode cL_send 56 = .ok (.ladd, 1) := by decide +kernel
theorem dL_send_57 : decode cL_send 57 = .ok (.aload_n 0, 1) := by decide +kernel
theorem dL_send_58 : decode cL_send 58 = .ok (.iconst 0, 1) := by decide +kernel
theorem dL_send_59 : decode cL_send 59 = .ok (.iaload, 1) := by decide +kernel
theorem dL_send_60 : decode cL_send 60 = .ok (.i2l, 1) := by decide +kernel
theorem dL_send_61 : decode cL_send 61 = .ok (.bipush 37, 2) := by decide +kernel
theorem dL_send_63 : decode cL_send 63 = .ok (.lshl, 1) := by decide +kernel
theorem dL_send_64 : decode cL_send 64 = .ok (.ladd, 1) := by decide +kernel
theorem dL_send_65 : decode cL_send 65 = .ok (.lastore, 1) := by decide +kernel
theorem dL_send_66 : decode cL_send 66 = .ok (.aload_n 0, 1) := by decide +kernel
theorem dL_send_67 : decode cL_send 67 = .ok (.iconst 1, 1) := by decide +kernel
theorem dL_send_68 : decode cL_send 68 = .ok (.iaload, 1) := by decide +kernel
theorem dL_send_69 : decode cL_send 69 = .ok (.iconst 1, 1) := by decide +kernel
theorem dL_send_70 : decode cL_send 70 = .ok (.if_icmp .ne 18, 3) := by decide +kernel
theorem dL_send_73 : decode cL_send 73 = .ok (.aload_n 0, 1) := by decide +kernel
theorem dL_send_74 : decode cL_send 74 = .ok (.aload_n 1, 1) := by decide +kernel
theorem dL_send_75 : decode cL_send 75 = .ok (.aload_n 2, 1) := by decide +kernel
theorem dL_send_76 : decode cL_send 76 = .ok (.iload 5, 2) := by decide +kernel
theorem dL_send_78 : decode cL_send 78 = .ok (.aload_n 0, 1) := by decide +kernel
theorem dL_send_79 : decode cL_send 79 = .ok (.iconst 4, 1) := by decide +kernel
theorem dL_send_80 : decode cL_send 80 = .ok (.iload 5, 2) := by decide +kernel
theorem dL_send_82 : decode cL_send 82 = .ok (.iadd, 1) := by decide +kernel
theorem dL_send_83 : decode cL_send 83 = .ok (.iaload, 1) := by decide +kernel
theorem dL_send_84 : decode cL_send 84 = .ok (.iconst 0, 1) := by decide +kernel
theorem dL_send_85 : decode cL_send 85 = .ok (.invokestatic 123, 3) := by decide +kernel
theorem dL_send_88 : decode cL_send 88 = .ok (.return_, 1) := by decide +kernel
theorem dL_part_0 : decode cL_part 0 = .ok (.lload_n 0, 1) := by decide +kernel
theorem dL_part_1 : decode cL_part 1 = .ok (.iload_n 2, 1) := by decide +kernel
theorem dL_part_2 : decode cL_part 2 = .ok (.lshr, 1) := by decide +kernel
theorem dL_part_3 : decode cL_part 3 = .ok (.ldc2_w 127, 3) := by decide +kernel
theorem dL_part_6 : decode cL_part 6 = .ok (.land, 1) := by decide +kernel
theorem dL_part_7 : decode cL_part 7 = .ok (.l2i, 1) := by decide +kernel
theorem dL_part_8 : decode cL_part 8 = .ok (.ireturn, 1) := by decide +kernel
theorem dL_down_0 : decode cL_down 0 = .ok (.aload_n 0, 1) := by decide +kernel
theorem dL_down_1 : decode cL_down 1 = .ok (.bipush 16, 2) := by decide +kernel
theorem dL_down_3 : decode cL_down 3 = .ok (.iaload, 1) := by decide +kernel
theorem dL_down_4 : decode cL_down 4 = .ok (.aload_n 0, 1) := by decide +kernel
theorem dL_down_5 : decode cL_down 5 = .ok (.bipush 17, 2) := by decide +kernel
theorem dL_down_7 : decode cL_down 7 = .ok (.iaload, 1) := by decide +kernel
theorem dL_down_8 : decode cL_down 8 = .ok (.iadd, 1) := by decide +kernel
theorem dL_down_9 : decode cL_down 9 = .ok (.istore_n 3, 1) := by decide +kernel
theorem dL_down_10 : decode cL_down 10 = .ok (.aload_n 0, 1) := by decide +kernel
theorem dL_down_11 : decode cL_down 11 = .ok (.iconst 1, 1) := by decide +kernel
theorem dL_down_12 : decode cL_down 12 = .ok (.iconst 0, 1) := by decide +kernel
theorem dL_down_13 : decode cL_down 13 = .ok (.iastore, 1) := by decide +kernel
theorem dL_down_14 : decode cL_down 14 = .ok (.iconst 0, 1) := by decide +kernel
theorem dL_down_15 : decode cL_down 15 = .ok (.istore 4, 2) := by decide +kernel
theorem dL_down_17 : decode cL_down 17 = .ok (.iload 4, 2) := by decide +kernel
theorem dL_down_19 : decode cL_down 19 = .ok (.iconst 2, 1) := by decide +kernel
theorem dL_down_20 : decode cL_down 20 = .ok (.if_icmp .ge 32, 3) := by decide +kernel
theorem dL_down_23 : decode cL_down 23 = .ok (.aload_n 0, 1) := by decide +kernel
theorem dL_down_24 : decode cL_down 24 = .ok (.iconst 2, 1) := by decide +kernel
theorem dL_down_25 : decode cL_down 25 = .ok (.iload 4, 2) := by decide +kernel
theorem dL_down_27 : decode cL_down 27 = .ok (.iadd, 1) := by decide +kernel
theorem dL_down_28 : decode cL_down 28 = .ok (.iconst 0, 1) := by decide +kernel
theorem dL_down_29 : decode cL_down 29 = .ok (.iastore, 1) := by decide +kernel
theorem dL_down_30 : decode cL_down 30 = .ok (.aload_n 0, 1) := by decide +kernel
theorem dL_down_31 : decode cL_down 31 = .ok (.bipush 8, 2) := by decide +kernel
theorem dL_down_33 : decode cL_down 33 = .ok (.iload 4, 2) := by decide +kernel
theorem dL_down_35 : decode cL_down 35 = .ok (.iadd, 1) := by decide +kernel
theorem dL_down_36 : decode cL_down 36 = .ok (.iconst 0, 1) := by decide +kernel
theorem dL_down_37 : decode cL_down 37 = .ok (.iastore, 1) := by decide +kernel
theorem dL_down_38 : decode cL_down 38 = .ok (.aload_n 0, 1) := by decide +kernel
theorem dL_down_39 : decode cL_down 39 = .ok (.bipush 16, 2) := by decide +kernel
theorem dL_down_41 : decode cL_down 41 = .ok (.iload 4, 2) := by decide +kernel
theorem dL_down_43 : decode cL_down 43 = .ok (.iadd, 1) := by decide +kernel
theorem dL_down_44 : decode cL_down 44 = .ok (.iconst 0, 1) := by decide +kernel
theorem dL_down_45 : decode cL_down 45 = .ok (.iastore, 1) := by decide +kernel
theorem dL_down_46 : decode cL_down 46 = .ok (.iinc 4 1, 3) := by decide +kernel
theorem dL_down_49 : decode cL_down 49 = .ok (.goto (-32), 3) := by decide +kernel
theorem dL_down_52 : decode cL_down 52 = .ok (.iconst 0, 1) := by decide +kernel
theorem dL_down_53 : decode cL_down 53 = .ok (.istore 4, 2) := by decide +kernel
theorem dL_down_55 : decode cL_down 55 = .ok (.iload 4, 2) := by decide +kernel
theorem dL_down_57 : decode cL_down 57 = .ok (.bipush 64, 2) := by decide +kernel
theorem dL_down_59 : decode cL_down 59 = .ok (.if_icmp .ge 19, 3) := by decide +kernel
theorem dL_down_62 : decode cL_down 62 = .ok (.aload_n 1, 1) := by decide +kernel
theorem dL_down_63 : decode cL_down 63 = .ok (.iload 4, 2) := by decide +kernel
theorem dL_down_65 : decode cL_down 65 = .ok (.iconst 0, 1) := by decide +kernel
theorem dL_down_66 : decode cL_down 66 = .ok (.iastore, 1) := by decide +kernel
theorem dL_down_67 : decode cL_down 67 = .ok (.aload_n 2, 1) := by decide +kernel
theorem dL_down_68 : decode cL_down 68 = .ok (.iload 4, 2) := by decide +kernel
theorem dL_down_70 : decode cL_down 70 = .ok (.iconst 0, 1) := by decide +kernel
theorem dL_down_71 : decode cL_down 71 = .ok (.iastore, 1) := by decide +kernel
theorem dL_down_72 : decode cL_down 72 = .ok (.iinc 4 1, 3) := by decide +kernel
theorem dL_down_75 : decode cL_down 75 = .ok (.goto (-20), 3) := by decide +kernel
theorem dL_down_78 : decode cL_down 78 = .ok (.iload_n 3, 1) := by decide +kernel
theorem dL_down_79 : decode cL_down 79 = .ok (.ireturn, 1) := by decide +kernel
theorem dL_up_0 : decode cL_up 0 = .ok (.aload_n 0, 1) := by decide +kernel
theorem dL_up_1 : decode cL_up 1 = .ok (.iconst 1, 1) := by decide +kernel
theorem dL_up_2 : decode cL_up 2 = .ok (.iconst 1, 1) := by decide +kernel
theorem dL_up_3 : decode cL_up 3 = .ok (.iastore, 1) := by decide +kernel
theorem dL_up_4 : decode cL_up 4 = .ok (.iconst 0, 1) := by decide +kernel
theorem dL_up_5 : decode cL_up 5 = .ok (.istore 6, 2) := by decide +kernel
theorem dL_up_7 : decode cL_up 7 = .ok (.iload 6, 2) := by decide +kernel
theorem dL_up_9 : decode cL_up 9 = .ok (.iconst 2, 1) := by decide +kernel
theorem dL_up_10 : decode cL_up 10 = .ok (.if_icmp .ge 39, 3) := by decide +kernel
theorem dL_up_13 : decode cL_up 13 = .ok (.iload 5, 2) := by decide +kernel
theorem dL_up_15 : decode cL_up 15 = .ok (.ifCond .eq 18, 3) := by decide +kernel
theorem dL_up_18 : decode cL_up 18 = .ok (.aload_n 0, 1) := by decide +kernel
theorem dL_up_19 : decode cL_up 19 = .ok (.iconst 4, 1) := by decide +kernel
theorem dL_up_20 : decode cL_up 20 = .ok (.iload 6, 2) := by decide +kernel
theorem dL_up_22 : decode cL_up 22 = .ok (.iadd, 1) := by decide +kernel
theorem dL_up_23 : decode cL_up 23 = .ok (.iconst 0, 1) := by decide +kernel
theorem dL_up_24 : decode cL_up 24 = .ok (.iastore, 1) := by decide +kernel
theorem dL_up_25 : decode cL_up 25 = .ok (.aload_n 0, 1) := by decide +kernel
theorem dL_up_26 : decode cL_up 26 = .ok (.bipush 6, 2) := by decide +kernel
theorem dL_up_28 : decode cL_up 28 = .ok (.iload 6, 2) := by decide +kernel
theorem dL_up_30 : decode cL_up 30 = .ok (.iadd, 1) := by decide +kernel
theorem dL_up_31 : decode cL_up 31 = .ok (.iconst 1, 1) := by decide +kernel
theorem dL_up_32 : decode cL_up 32 = .ok (.iastore, 1) := by decide +kernel
theorem dL_up_33 : decode cL_up 33 = .ok (.aload_n 0, 1) := by decide +kernel
theorem dL_up_34 : decode cL_up 34 = .ok (.bipush 14, 2) := by decide +kernel
theorem dL_up_36 : decode cL_up 36 = .ok (.iload 6, 2) := by decide +kernel
theorem dL_up_38 : decode cL_up 38 = .ok (.iadd, 1) := by decide +kernel
theorem dL_up_39 : decode cL_up 39 = .ok (.aload_n 0, 1) := by decide +kernel
theorem dL_up_40 : decode cL_up 40 = .ok (.iconst 0, 1) := by decide +kernel
theorem dL_up_41 : decode cL_up 41 = .ok (.iaload, 1) := by decide +kernel
theorem dL_up_42 : decode cL_up 42 = .ok (.iastore, 1) := by decide +kernel
theorem dL_up_43 : decode cL_up 43 = .ok (.iinc 6 1, 3) := by decide +kernel
theorem dL_up_46 : decode cL_up 46 = .ok (.goto (-39), 3) := by decide +kernel
theorem dL_up_49 : decode cL_up 49 = .ok (.aload_n 0, 1) := by decide +kernel
theorem dL_up_50 : decode cL_up 50 = .ok (.aload_n 1, 1) := by decide +kernel
theorem dL_up_51 : decode cL_up 51 = .ok (.aload_n 2, 1) := by decide +kernel
theorem dL_up_52 : decode cL_up 52 = .ok (.aload_n 3, 1) := by decide +kernel
theorem dL_up_53 : decode cL_up 53 = .ok (.aload 4, 2) := by decide +kernel
theorem dL_up_55 : decode cL_up 55 = .ok (.iconst 0, 1) := by decide +kernel
theorem dL_up_56 : decode cL_up 56 = .ok (.iconst 0, 1) := by decide +kernel
theorem dL_up_57 : decode cL_up 57 = .ok (.iconst 0, 1) := by decide +kernel
theorem dL_up_58 : decode cL_up 58 = .ok (.iconst 0, 1) := by decide +kernel
theorem dL_up_59 : decode cL_up 59 = .ok (.iconst 0, 1) := by decide +kernel
theorem dL_up_60 : decode cL_up 60 = .ok (.iconst 0, 1) := by decide +kernel
theorem dL_up_61 : decode cL_up 61 = .ok (.invokestatic 129, 3) := by decide +kernel
theorem dL_up_64 : decode cL_up 64 = .ok (.aload_n 0, 1) := by decide +kernel
theorem dL_up_65 : decode cL_up 65 = .ok (.aload_n 1, 1) := by decide +kernel
theorem dL_up_66 : decode cL_up 66 = .ok (.aload_n 2, 1) := by decide +kernel
theorem dL_up_67 : decode cL_up 67 = .ok (.aload_n 3, 1) := by decide +kernel
theorem dL_up_68 : decode cL_up 68 = .ok (.aload 4, 2) := by decide +kernel
theorem dL_up_70 : decode cL_up 70 = .ok (.iconst 1, 1) := by decide +kernel
theorem dL_up_71 : decode cL_up 71 = .ok (.iconst 0, 1) := by decide +kernel
theorem dL_up_72 : decode cL_up 72 = .ok (.iconst 0, 1) := by decide +kernel
theorem dL_up_73 : decode cL_up 73 = .ok (.iconst 0, 1) := by decide +kernel
theorem dL_up_74 : decode cL_up 74 = .ok (.iconst 0, 1) := by decide +kernel
theorem dL_up_75 : decode cL_up 75 = .ok (.iconst 0, 1) := by decide +kernel
theorem dL_up_76 : decode cL_up 76 = .ok (.invokestatic 129, 3) := by decide +kernel
theorem dL_up_79 : decode cL_up 79 = .ok (.return_, 1) := by decide +kernel
theorem dL_answer_0 : decode cL_answer 0 = .ok (.iconst 0, 1) := by decide +kernel
theorem dL_answer_1 : decode cL_answer 1 = .ok (.istore 8, 2) := by decide +kernel
theorem dL_answer_3 : decode cL_answer 3 = .ok (.aload_n 0, 1) := by decide +kernel
theorem dL_answer_4 : decode cL_answer 4 = .ok (.iconst 4, 1) := by decide +kernel
theorem dL_answer_5 : decode cL_answer 5 = .ok (.iload 6, 2) := by decide +kernel
theorem dL_answer_7 : decode cL_answer 7 = .ok (.iadd, 1) := by decide +kernel
theorem dL_answer_8 : decode cL_answer 8 = .ok (.iaload, 1) := by decide +kernel
theorem dL_answer_9 : decode cL_answer 9 = .ok (.istore 9, 2) := by decide +kernel
theorem dL_answer_11 : decode cL_answer 11 = .ok (.iload 7, 2) := by decide +kernel
theorem dL_answer_13 : decode cL_answer 13 = .ok (.istore 10, 2) := by decide +kernel
theorem dL_answer_15 : decode cL_answer 15 = .ok (.iload 10, 2) := by decide +kernel
theorem dL_answer_17 : decode cL_answer 17 = .ok (.iload 9, 2) := by decide +kernel
theorem dL_answer_19 : decode cL_answer 19 = .ok (.if_icmp .gt 171, 3) := by decide +kernel
theorem dL_answer_22 : decode cL_answer 22 = .ok (.iload 6, 2) := by decide +kernel
theorem dL_answer_24 : decode cL_answer 24 = .ok (.ifCond .ne 7, 3) := by decide +kernel
theorem dL_answer_27 : decode cL_answer 27 = .ok (.aload_n 3, 1) := by decide +kernel
theorem dL_answer_28 : decode cL_answer 28 = .ok (.goto 5, 3) := by decide +kernel
theorem dL_answer_31 : decode cL_answer 31 = .ok (.aload 4, 2) := by decide +kernel
theorem dL_answer_33 : decode cL_answer 33 = .ok (.iload 10, 2) := by decide +kernel
theorem dL_answer_35 : decode cL_answer 35 = .ok (.laload, 1) := by decide +kernel
theorem dL_answer_36 : decode cL_answer 36 = .ok (.lstore 11, 2) := by decide +kernel
theorem dL_answer_38 : decode cL_answer 38 = .ok (.lload 11, 2) := by decide +kernel
theorem dL_answer_40 : decode cL_answer 40 = .ok (.ldc2_w 133, 3) := by decide +kernel
theorem dL_answer_43 : decode cL_answer 43 = .ok (.land, 1) := by decide +kernel
theorem dL_answer_44 : decode cL_answer 44 = .ok (.l2i, 1) := by decide +kernel
theorem dL_answer_45 : decode cL_answer 45 = .ok (.istore 13, 2) := by decide +kernel
theorem dL_answer_47 : decode cL_answer 47 = .ok (.iload 13, 2) := by decide +kernel
theorem dL_answer_49 : decode cL_answer 49 = .ok (.iconst 5, 1) := by decide +kernel
theorem dL_answer_50 : decode cL_answer 50 = .ok (.if_icmp .ne 33, 3) := by decide +kernel
theorem dL_answer_53 : decode cL_answer 53 = .ok (.aload_n 0, 1) := by decide +kernel
theorem dL_answer_54 : decode cL_answer 54 = .ok (.iconst 0, 1) := by decide +kernel
theorem dL_answer_55 : decode cL_answer 55 = .ok (.iaload, 1) := by decide +kernel
theorem dL_answer_56 : decode cL_answer 56 = .ok (.lload 11, 2) := by decide +kernel
theorem dL_answer_58 : decode cL_answer 58 = .ok (.bipush 37, 2) := by decide +kernel
theorem dL_answer_60 : decode cL_answer 60 = .ok (.lshr, 1) := by decide +kernel
theorem dL_answer_61 : decode cL_answer 61 = .ok (.l2i, 1) := by decide +kernel
theorem dL_answer_62 : decode cL_answer 62 = .ok (.isub, 1) := by decide +kernel
theorem dL_answer_63 : decode cL_answer 63 = .ok (.bipush 20, 2) := by decide +kernel
theorem dL_answer_65 : decode cL_answer 65 = .ok (.if_icmp .le 18, 3) := by decide +kernel
theorem dL_answer_68 : decode cL_answer 68 = .ok (.lload 11, 2) := by decide +kernel
theorem dL_answer_70 : decode cL_answer 70 = .ok (.iconst 4, 1) := by decide +kernel
theorem dL_answer_71 : decode cL_answer 71 = .ok (.lshr, 1) := by decide +kernel
theorem dL_answer_72 : decode cL_answer 72 = .ok (.lconst 1, 1) := by decide +kernel
theorem dL_answer_73 : decode cL_answer 73 = .ok (.land, 1) := by decide +kernel
theorem dL_answer_74 : decode cL_answer 74 = .ok (.lconst 0, 1) := by decide +kernel
theorem dL_answer_75 : decode cL_answer 75 = .ok (.lcmp, 1) := by decide +kernel
theorem dL_answer_76 : decode cL_answer 76 = .ok (.ifCond .ne 7, 3) := by decide +kernel
theorem dL_answer_79 : decode cL_answer 79 = .ok (.iconst 1, 1) := by decide +kernel
theorem dL_answer_80 : decode cL_answer 80 = .ok (.goto 4, 3) := by decide +kernel
theorem dL_answer_83 : decode cL_answer 83 = .ok (.iconst 0, 1) := by decide +kernel
theorem dL_answer_84 : decode cL_answer 84 = .ok (.istore 14, 2) := by decide +kernel
theorem dL_answer_86 : decode cL_answer 86 = .ok (.iload 14, 2) := by decide +kernel
theorem dL_answer_88 : decode cL_answer 88 = .ok (.ifCond .eq 17, 3) := by decide +kernel
theorem dL_answer_91 : decode cL_answer 91 = .ok (.aload 5, 2) := by decide +kernel
theorem dL_answer_93 : decode cL_answer 93 = .ok (.lload 11, 2) := by decide +kernel
theorem dL_answer_95 : decode cL_answer 95 = .ok (.iconst 5, 1) := by decide +kernel
theorem dL_answer_96 : decode cL_answer 96 = .ok (.invokestatic 135, 3) := by decide +kernel
theorem dL_answer_99 : decode cL_answer 99 = .ok (.dup2, 1) := by decide +kernel
theorem dL_answer_100 : decode cL_answer 100 = .ok (.iaload, 1) := by decide +kernel
theorem dL_answer_101 : decode cL_answer 101 = .ok (.bipush 8, 2) := by decide +kernel
theorem dL_answer_103 : decode cL_answer 103 = .ok (.ior, 1) := by decide +kernel
theorem dL_answer_104 : decode cL_answer 104 = .ok (.iastore, 1) := by decide +kernel
theorem dL_answer_105 : decode cL_answer 105 = .ok (.iload 14, 2) := by decide +kernel
theorem dL_answer_107 : decode cL_answer 107 = .ok (.ifCond .ne 9, 3) := by decide +kernel
theorem dL_answer_110 : decode cL_answer 110 = .ok (.iload 13, 2) := by decide +kernel
theorem dL_answer_112 : decode cL_answer 112 = .ok (.iconst 5, 1) := by decide +kernel
theorem dL_answer_113 : decode cL_answer 113 = .ok (.if_icmp .ge 20, 3) := by decide +kernel
theorem dL_answer_116 : decode cL_answer 116 = .ok (.iload 8, 2) := by decide +kernel
theorem dL_answer_118 : decode cL_answer 118 = .ok (.ifCond .ne 8, 3) := by decide +kernel
theorem dL_answer_121 : decode cL_answer 121 = .ok (.iload 10, 2) := by decide +kernel
theorem dL_answer_123 : decode cL_answer 123 = .ok (.goto 5, 3) := by decide +kernel
theorem dL_answer_126 : decode cL_answer 126 = .ok (.iload 8, 2) := by decide +kernel
theorem dL_answer_128 : decode cL_answer 128 = .ok (.istore 8, 2) := by decide +kernel
theorem dL_answer_130 : decode cL_answer 130 = .ok (.goto 54, 3) := by decide +kernel
theorem dL_answer_133 : decode cL_answer 133 = .ok (.iload 8, 2) := by decide +kernel
theorem dL_answer_135 : decode cL_answer 135 = .ok (.ifCond .le 15, 3) := by decide +kernel
theorem dL_answer_138 : decode cL_answer 138 = .ok (.aload_n 0, 1) := by decide +kernel
theorem dL_answer_139 : decode cL_answer 139 = .ok (.aload_n 1, 1) := by decide +kernel
theorem dL_answer_140 : decode cL_answer 140 = .ok (.aload_n 2, 1) := by decide +kernel
theorem dL_answer_141 : decode cL_answer 141 = .ok (.iload 6, 2) := by decide +kernel
theorem dL_answer_143 : decode cL_answer 143 = .ok (.iload 8, 2) := by decide +kernel
theorem dL_answer_145 : decode cL_answer 145 = .ok (.iload 10, 2) := by decide +kernel
theorem dL_answer_147 : decode cL_answer 147 = .ok (.invokestatic 123, 3) := by decide +kernel
theorem dL_answer_150 : decode cL_answer 150 = .ok (.iconst 0, 1) := by decide +kernel
theorem dL_answer_151 : decode cL_answer 151 = .ok (.istore 8, 2) := by decide +kernel
theorem dL_answer_153 : decode cL_answer 153 = .ok (.iload 6, 2) := by decide +kernel
theorem dL_answer_155 : decode cL_answer 155 = .ok (.ifCond .ne 7, 3) := by decide +kernel
theorem dL_answer_158 : decode cL_answer 158 = .ok (.aload_n 3, 1) := by decide +kernel
theorem dL_answer_159 : decode cL_answer 159 = .ok (.goto 5, 3) := by decide +kernel
theorem dL_answer_162 : decode cL_answer 162 = .ok (.aload 4, 2) := by decide +kernel
theorem dL_answer_164 : decode cL_answer 164 = .ok (.iload 10, 2) := by decide +kernel
theorem dL_answer_166 : decode cL_answer 166 = .ok (.dup2, 1) := by decide +kernel
theorem dL_answer_167 : decode cL_answer 167 = .ok (.laload, 1) := by decide +kernel
theorem dL_answer_168 : decode cL_answer 168 = .ok (.ldc2_w 139, 3) := by decide +kernel
theorem dL_answer_171 : decode cL_answer 171 = .ok (.lor, 1) := by decide +kernel
theorem dL_answer_172 : decode cL_answer 172 = .ok (.lastore, 1) := by decide +kernel
theorem dL_answer_173 : decode cL_answer 173 = .ok (.aload_n 0, 1) := by decide +kernel
theorem dL_answer_174 : decode cL_answer 174 = .ok (.aload_n 1, 1) := by decide +kernel
theorem dL_answer_175 : decode cL_answer 175 = .ok (.aload_n 2, 1) := by decide +kernel
theorem dL_answer_176 : decode cL_answer 176 = .ok (.iload 6, 2) := by decide +kernel
theorem dL_answer_178 : decode cL_answer 178 = .ok (.iload 10, 2) := by decide +kernel
theorem dL_answer_180 : decode cL_answer 180 = .ok (.iconst 0, 1) := by decide +kernel
theorem dL_answer_181 : decode cL_answer 181 = .ok (.invokestatic 123, 3) := by decide +kernel
theorem dL_answer_184 : decode cL_answer 184 = .ok (.iinc 10 1, 3) := by decide +kernel
theorem dL_answer_187 : decode cL_answer 187 = .ok (.goto (-172), 3) := by decide +kernel
theorem dL_answer_190 : decode cL_answer 190 = .ok (.iload 8, 2) := by decide +kernel
theorem dL_answer_192 : decode cL_answer 192 = .ok (.ifCond .le 17, 3) := by decide +kernel
theorem dL_answer_195 : decode cL_answer 195 = .ok (.aload_n 0, 1) := by decide +kernel
theorem dL_answer_196 : decode cL_answer 196 = .ok (.aload_n 1, 1) := by decide +kernel
theorem dL_answer_197 : decode cL_answer 197 = .ok (.aload_n 2, 1) := by decide +kernel
theorem dL_answer_198 : decode cL_answer 198 = .ok (.iload 6, 2) := by decide +kernel
theorem dL_answer_200 : decode cL_answer 200 = .ok (.iload 8, 2) := by decide +kernel
theorem dL_answer_202 : decode cL_answer 202 = .ok (.iload 9, 2) := by decide +kernel
theorem dL_answer_204 : decode cL_answer 204 = .ok (.iconst 1, 1) := by decide +kernel
theorem dL_answer_205 : decode cL_answer 205 = .ok (.iadd, 1) := by decide +kernel
theorem dL_answer_206 : decode cL_answer 206 = .ok (.invokestatic 123, 3) := by decide +kernel
theorem dL_answer_209 : decode cL_answer 209 = .ok (.return_, 1) := by decide +kernel
theorem dL_rest_0 : decode cL_rest 0 = .ok (.aload_n 0, 1) := by decide +kernel
theorem dL_rest_1 : decode cL_rest 1 = .ok (.iload_n 3, 1) := by decide +kernel
theorem dL_rest_2 : decode cL_rest 2 = .ok (.iaload, 1) := by decide +kernel
theorem dL_rest_3 : decode cL_rest 3 = .ok (.aload_n 1, 1) := by decide +kernel
theorem dL_rest_4 : decode cL_rest 4 = .ok (.iload_n 3, 1) := by decide +kernel
theorem dL_rest_5 : decode cL_rest 5 = .ok (.iaload, 1) := by decide +kernel
theorem dL_rest_6 : decode cL_rest 6 = .ok (.isub, 1) := by decide +kernel
theorem dL_rest_7 : decode cL_rest 7 = .ok (.aload_n 2, 1) := by decide +kernel
theorem dL_rest_8 : decode cL_rest 8 = .ok (.iload_n 3, 1) := by decide +kernel
theorem dL_rest_9 : decode cL_rest 9 = .ok (.iaload, 1) := by decide +kernel
theorem dL_rest_10 : decode cL_rest 10 = .ok (.isub, 1) := by decide +kernel
theorem dL_rest_11 : decode cL_rest 11 = .ok (.ireturn, 1) := by decide +kernel
theorem dL_best_0 : decode cL_best 0 = .ok (.iconst (-1), 1) := by decide +kernel
theorem dL_best_1 : decode cL_best 1 = .ok (.istore 4, 2) := by decide +kernel
theorem dL_best_3 : decode cL_best 3 = .ok (.aload_n 1, 1) := by decide +kernel
theorem dL_best_4 : decode cL_best 4 = .ok (.iload_n 3, 1) := by decide +kernel
theorem dL_best_5 : decode cL_best 5 = .ok (.iaload, 1) := by decide +kernel
theorem dL_best_6 : decode cL_best 6 = .ok (.iconst 1, 1) := by decide +kernel
theorem dL_best_7 : decode cL_best 7 = .ok (.iand, 1) := by decide +kernel
theorem dL_best_8 : decode cL_best 8 = .ok (.iconst 1, 1) := by decide +kernel
theorem dL_best_9 : decode cL_best 9 = .ok (.if_icmp .ne 7, 3) := by decide +kernel
theorem dL_best_12 : decode cL_best 12 = .ok (.iconst (-1), 1) := by decide +kernel
theorem dL_best_13 : decode cL_best 13 = .ok (.goto 4, 3) := by decide +kernel
theorem dL_best_16 : decode cL_best 16 = .ok (.iconst 1, 1) := by decide +kernel
theorem dL_best_17 : decode cL_best 17 = .ok (.istore 5, 2) := by decide +kernel
theorem dL_best_19 : decode cL_best 19 = .ok (.aload_n 1, 1) := by decide +kernel
theorem dL_best_20 : decode cL_best 20 = .ok (.iload_n 3, 1) := by decide +kernel
theorem dL_best_21 : decode cL_best 21 = .ok (.iaload, 1) := by decide +kernel
theorem dL_best_22 : decode cL_best 22 = .ok (.iconst 1, 1) := by decide +kernel
theorem dL_best_23 : decode cL_best 23 = .ok (.iand, 1) := by decide +kernel
theorem dL_best_24 : decode cL_best 24 = .ok (.istore 6, 2) := by decide +kernel
theorem dL_best_26 : decode cL_best 26 = .ok (.iload 6, 2) := by decide +kernel
theorem dL_best_28 : decode cL_best 28 = .ok (.bipush 6, 2) := by decide +kernel
theorem dL_best_30 : decode cL_best 30 = .ok (.if_icmp .ge 111, 3) := by decide +kernel
theorem dL_best_33 : decode cL_best 33 = .ok (.aload_n 2, 1) := by decide +kernel
theorem dL_best_34 : decode cL_best 34 = .ok (.iload 6, 2) := by decide +kernel
theorem dL_best_36 : decode cL_best 36 = .ok (.iaload, 1) := by decide +kernel
theorem dL_best_37 : decode cL_best 37 = .ok (.sipush 255, 3) := by decide +kernel
theorem dL_best_40 : decode cL_best 40 = .ok (.iand, 1) := by decide +kernel
theorem dL_best_41 : decode cL_best 41 = .ok (.istore 7, 2) := by decide +kernel
theorem dL_best_43 : decode cL_best 43 = .ok (.iload 7, 2) := by decide +kernel
theorem dL_best_45 : decode cL_best 45 = .ok (.ifCond .eq 90, 3) := by decide +kernel
theorem dL_best_48 : decode cL_best 48 = .ok (.iload 5, 2) := by decide +kernel
theorem dL_best_50 : decode cL_best 50 = .ok (.aload_n 2, 1) := by decide +kernel
theorem dL_best_51 : decode cL_best 51 = .ok (.iload 6, 2) := by decide +kernel
theorem dL_best_53 : decode cL_best 53 = .ok (.iaload, 1) := by decide +kernel
theorem dL_best_54 : decode cL_best 54 = .ok (.bipush 8, 2) := by decide +kernel
theorem dL_best_56 : decode cL_best 56 = .ok (.ishr, 1) := by decide +kernel
theorem dL_best_57 : decode cL_best 57 = .ok (.imul, 1) := by decide +kernel
theorem dL_best_58 : decode cL_best 58 = .ok (.iload 5, 2) := by decide +kernel
theorem dL_best_60 : decode cL_best 60 = .ok (.aload_n 0, 1) := by decide +kernel
theorem dL_best_61 : decode cL_best 61 = .ok (.bipush 10, 2) := by decide +kernel
theorem dL_best_63 : decode cL_best 63 = .ok (.iload_n 3, 1) := by decide +kernel
theorem dL_best_64 : decode cL_best 64 = .ok (.iadd, 1) := by decide +kernel
theorem dL_best_65 : decode cL_best 65 = .ok (.iaload, 1) := by decide +kernel
theorem dL_best_66 : decode cL_best 66 = .ok (.imul, 1) := by decide +kernel
theorem dL_best_67 : decode cL_best 67 = .ok (.if_icmp .le 6, 3) := by decide +kernel
theorem dL_best_70 : decode cL_best 70 = .ok (.goto 65, 3) := by decide +kernel
theorem dL_best_73 : decode cL_best 73 = .ok (.iload 4, 2) := by decide +kernel
theorem dL_best_75 : decode cL_best 75 = .ok (.ifCond .lt 56, 3) := by decide +kernel
theorem dL_best_78 : decode cL_best 78 = .ok (.iload 5, 2) := by decide +kernel
theorem dL_best_80 : decode cL_best 80 = .ok (.aload_n 2, 1) := by decide +kernel
theorem dL_best_81 : decode cL_best 81 = .ok (.iload 6, 2) := by decide +kernel
theorem dL_best_83 : decode cL_best 83 = .ok (.iaload, 1) := by decide +kernel
theorem dL_best_84 : decode cL_best 84 = .ok (.bipush 8, 2) := by decide +kernel
theorem dL_best_86 : decode cL_best 86 = .ok (.ishr, 1) := by decide +kernel
theorem dL_best_87 : decode cL_best 87 = .ok (.imul, 1) := by decide +kernel
theorem dL_best_88 : decode cL_best 88 = .ok (.iload 5, 2) := by decide +kernel
theorem dL_best_90 : decode cL_best 90 = .ok (.aload_n 2, 1) := by decide +kernel
theorem dL_best_91 : decode cL_best 91 = .ok (.iload 4, 2) := by decide +kernel
theorem dL_best_93 : decode cL_best 93 = .ok (.iaload, 1) := by decide +kernel
theorem dL_best_94 : decode cL_best 94 = .ok (.bipush 8, 2) := by decide +kernel
theorem dL_best_96 : decode cL_best 96 = .ok (.ishr, 1) := by decide +kernel
theorem dL_best_97 : decode cL_best 97 = .ok (.imul, 1) := by decide +kernel
theorem dL_best_98 : decode cL_best 98 = .ok (.if_icmp .lt 33, 3) := by decide +kernel
theorem dL_best_101 : decode cL_best 101 = .ok (.aload_n 2, 1) := by decide +kernel
theorem dL_best_102 : decode cL_best 102 = .ok (.iload 6, 2) := by decide +kernel
theorem dL_best_104 : decode cL_best 104 = .ok (.iaload, 1) := by decide +kernel
theorem dL_best_105 : decode cL_best 105 = .ok (.bipush 8, 2) := by decide +kernel
theorem dL_best_107 : decode cL_best 107 = .ok (.ishr, 1) := by decide +kernel
theorem dL_best_108 : decode cL_best 108 = .ok (.aload_n 2, 1) := by decide +kernel
theorem dL_best_109 : decode cL_best 109 = .ok (.iload 4, 2) := by decide +kernel
theorem dL_best_111 : decode cL_best 111 = .ok (.iaload, 1) := by decide +kernel
theorem dL_best_112 : decode cL_best 112 = .ok (.bipush 8, 2) := by decide +kernel
theorem dL_best_114 : decode cL_best 114 = .ok (.ishr, 1) := by decide +kernel
theorem dL_best_115 : decode cL_best 115 = .ok (.if_icmp .ne 20, 3) := by decide +kernel
theorem dL_best_118 : decode cL_best 118 = .ok (.iload 7, 2) := by decide +kernel
theorem dL_best_120 : decode cL_best 120 = .ok (.aload_n 2, 1) := by decide +kernel
theorem dL_best_121 : decode cL_best 121 = .ok (.iload 4, 2) := by decide +kernel
theorem dL_best_123 : decode cL_best 123 = .ok (.iaload, 1) := by decide +kernel
theorem dL_best_124 : decode cL_best 124 = .ok (.sipush 255, 3) := by decide +kernel
theorem dL_best_127 : decode cL_best 127 = .ok (.iand, 1) := by decide +kernel
theorem dL_best_128 : decode cL_best 128 = .ok (.if_icmp .le 7, 3) := by decide +kernel
theorem dL_best_131 : decode cL_best 131 = .ok (.iload 6, 2) := by decide +kernel
theorem dL_best_133 : decode cL_best 133 = .ok (.istore 4, 2) := by decide +kernel
theorem dL_best_135 : decode cL_best 135 = .ok (.iinc 6 2, 3) := by decide +kernel
theorem dL_best_138 : decode cL_best 138 = .ok (.goto (-112), 3) := by decide +kernel
theorem dL_best_141 : decode cL_best 141 = .ok (.iload 4, 2) := by decide +kernel
theorem dL_best_143 : decode cL_best 143 = .ok (.ireturn, 1) := by decide +kernel
theorem dL_route_0 : decode cL_route 0 = .ok (.aload_n 0, 1) := by decide +kernel
theorem dL_route_1 : decode cL_route 1 = .ok (.bipush 19, 2) := by decide +kernel
theorem dL_route_3 : decode cL_route 3 = .ok (.iaload, 1) := by decide +kernel
theorem dL_route_4 : decode cL_route 4 = .ok (.istore 13, 2) := by decide +kernel
theorem dL_route_6 : decode cL_route 6 = .ok (.aload 5, 2) := by decide +kernel
theorem dL_route_8 : decode cL_route 8 = .ok (.aload 9, 2) := by decide +kernel
theorem dL_route_10 : decode cL_route 10 = .ok (.aload 11, 2) := by decide +kernel
theorem dL_route_12 : decode cL_route 12 = .ok (.iload 12, 2) := by decide +kernel
theorem dL_route_14 : decode cL_route 14 = .ok (.invokestatic 141, 3) := by decide +kernel
theorem dL_route_17 : decode cL_route 17 = .ok (.istore 14, 2) := by decide +kernel
theorem dL_route_19 : decode cL_route 19 = .ok (.iload 14, 2) := by decide +kernel
theorem dL_route_21 : decode cL_route 21 = .ok (.ifCond .lt 182, 3) := by decide +kernel
theorem dL_route_24 : decode cL_route 24 = .ok (.aload 6, 2) := by decide +kernel
theorem dL_route_26 : decode cL_route 26 = .ok (.aload 7, 2) := by decide +kernel
theorem dL_route_28 : decode cL_route 28 = .ok (.aload 8, 2) := by decide +kernel
theorem dL_route_30 : decode cL_route 30 = .ok (.bipush 10, 2) := by decide +kernel
theorem dL_route_32 : decode cL_route 32 = .ok (.iload 12, 2) := by decide +kernel
theorem dL_route_34 : decode cL_route 34 = .ok (.iadd, 1) := by decide +kernel
theorem dL_route_35 : decode cL_route 35 = .ok (.invokestatic 145, 3) := by decide +kernel
theorem dL_route_38 : decode cL_route 38 = .ok (.ifCond .le 165, 3) := by decide +kernel
theorem dL_route_41 : decode cL_route 41 = .ok (.aload_n 0, 1) := by decide +kernel
theorem dL_route_42 : decode cL_route 42 = .ok (.bipush 19, 2) := by decide +kernel
theorem dL_route_44 : decode cL_route 44 = .ok (.iaload, 1) := by decide +kernel
theorem dL_route_45 : decode cL_route 45 = .ok (.bipush 60, 2) := by decide +kernel
theorem dL_route_47 : decode cL_route 47 = .ok (.if_icmp .ge 156, 3) := by decide +kernel
theorem dL_route_50 : decode cL_route 50 = .ok (.aload 6, 2) := by decide +kernel
theorem dL_route_52 : decode cL_route 52 = .ok (.aload 7, 2) := by decide +kernel
theorem dL_route_54 : decode cL_route 54 = .ok (.aload 8, 2) := by decide +kernel
theorem dL_route_56 : decode cL_route 56 = .ok (.bipush 10, 2) := by decide +kernel
theorem dL_route_58 : decode cL_route 58 = .ok (.iload 12, 2) := by decide +kernel
theorem dL_route_60 : decode cL_route 60 = .ok (.iadd, 1) := by decide +kernel
theorem dL_route_61 : decode cL_route 61 = .ok (.invokestatic 145, 3) := by decide +kernel
theorem dL_route_64 : decode cL_route 64 = .ok (.istore 15, 2) := by decide +kernel
theorem dL_route_66 : decode cL_route 66 = .ok (.iload 15, 2) := by decide +kernel
theorem dL_route_68 : decode cL_route 68 = .ok (.aload 11, 2) := by decide +kernel
theorem dL_route_70 : decode cL_route 70 = .ok (.iload 14, 2) := by decide +kernel
theorem dL_route_72 : decode cL_route 72 = .ok (.iaload, 1) := by decide +kernel
theorem dL_route_73 : decode cL_route 73 = .ok (.sipush 255, 3) := by decide +kernel
theorem dL_route_76 : decode cL_route 76 = .ok (.iand, 1) := by decide +kernel
theorem dL_route_77 : decode cL_route 77 = .ok (.if_icmp .ge 8, 3) := by decide +kernel
theorem dL_route_80 : decode cL_route 80 = .ok (.iload 15, 2) := by decide +kernel
theorem dL_route_82 : decode cL_route 82 = .ok (.goto 12, 3) := by decide +kernel
theorem dL_route_85 : decode cL_route 85 = .ok (.aload 11, 2) := by decide +kernel
theorem dL_route_87 : decode cL_route 87 = .ok (.iload 14, 2) := by decide +kernel
theorem dL_route_89 : decode cL_route 89 = .ok (.iaload, 1) := by decide +kernel
theorem dL_route_90 : decode cL_route 90 = .ok (.sipush 255, 3) := by decide +kernel
theorem dL_route_93 : decode cL_route 93 = .ok (.iand, 1) := by decide +kernel
theorem dL_route_94 : decode cL_route 94 = .ok (.istore 15, 2) := by decide +kernel
theorem dL_route_96 : decode cL_route 96 = .ok (.aload 11, 2) := by decide +kernel
theorem dL_route_98 : decode cL_route 98 = .ok (.iload 14, 2) := by decide +kernel
theorem dL_route_100 : decode cL_route 100 = .ok (.iaload, 1) := by decide +kernel
theorem dL_route_101 : decode cL_route 101 = .ok (.bipush 8, 2) := by decide +kernel
theorem dL_route_103 : decode cL_route 103 = .ok (.ishr, 1) := by decide +kernel
theorem dL_route_104 : decode cL_route 104 = .ok (.i2l, 1) := by decide +kernel
theorem dL_route_105 : decode cL_route 105 = .ok (.lstore 16, 2) := by decide +kernel
theorem dL_route_107 : decode cL_route 107 = .ok (.aload 10, 2) := by decide +kernel
theorem dL_route_109 : decode cL_route 109 = .ok (.aload_n 0, 1) := by decide +kernel
theorem dL_route_110 : decode cL_route 110 = .ok (.bipush 19, 2) := by decide +kernel
theorem dL_route_112 : decode cL_route 112 = .ok (.iaload, 1) := by decide +kernel
theorem dL_route_113 : decode cL_route 113 = .ok (.iload 12, 2) := by decide +kernel
theorem dL_route_115 : decode cL_route 115 = .ok (.i2l, 1) := by decide +kernel
theorem dL_route_116 : decode cL_route 116 = .ok (.ldc2_w 139, 3) := by decide +kernel
theorem dL_route_119 : decode cL_route 119 = .ok (.iload 14, 2) := by decide +kernel
theorem dL_route_121 : decode cL_route 121 = .ok (.iconst 2, 1) := by decide +kernel
theorem dL_route_122 : decode cL_route 122 = .ok (.idiv, 1) := by decide +kernel
theorem dL_route_123 : decode cL_route 123 = .ok (.i2l, 1) := by decide +kernel
theorem dL_route_124 : decode cL_route 124 = .ok (.lmul, 1) := by decide +kernel
theorem dL_route_125 : decode cL_route 125 = .ok (.ladd, 1) := by decide +kernel
theorem dL_route_126 : decode cL_route 126 = .ok (.ldc2_w 148, 3) := by decide +kernel
theorem dL_route_129 : decode cL_route 129 = .ok (.aload_n 0, 1) := by decide +kernel
theorem dL_route_130 : decode cL_route 130 = .ok (.bipush 20, 2) := by decide +kernel
theorem dL_route_132 : decode cL_route 132 = .ok (.iaload, 1) := by decide +kernel
theorem dL_route_133 : decode cL_route 133 = .ok (.i2l, 1) := by decide +kernel
theorem dL_route_134 : decode cL_route 134 = .ok (.lmul, 1) := by decide +kernel
theorem dL_route_135 : decode cL_route 135 = .ok (.ladd, 1) := by decide +kernel
theorem dL_route_136 : decode cL_route 136 = .ok (.iload 15, 2) := by decide +kernel
theorem dL_route_138 : decode cL_route 138 = .ok (.i2l, 1) := by decide +kernel
theorem dL_route_139 : decode cL_route 139 = .ok (.bipush 14, 2) := by decide +kernel
theorem dL_route_141 : decode cL_route 141 = .ok (.lshl, 1) := by decide +kernel
theorem dL_route_142 : decode cL_route 142 = .ok (.ladd, 1) := by decide +kernel
theorem dL_route_143 : decode cL_route 143 = .ok (.lload 16, 2) := by decide +kernel
theorem dL_route_145 : decode cL_route 145 = .ok (.bipush 21, 2) := by decide +kernel
theorem dL_route_147 : decode cL_route 147 = .ok (.lshl, 1) := by decide +kernel
theorem dL_route_148 : decode cL_route 148 = .ok (.ladd, 1) := by decide +kernel
theorem dL_route_149 : decode cL_route 149 = .ok (.lload 16, 2) := by decide +kernel
theorem dL_route_151 : decode cL_route 151 = .ok (.bipush 28, 2) := by decide +kernel
theorem dL_route_153 : decode cL_route 153 = .ok (.lshl, 1) := by decide +kernel
theorem dL_route_154 : decode cL_route 154 = .ok (.ladd, 1) := by decide +kernel
theorem dL_route_155 : decode cL_route 155 = .ok (.lastore, 1) := by decide +kernel
theorem dL_route_156 : decode cL_route 156 = .ok (.aload_n 0, 1) := by decide +kernel
theorem dL_route_157 : decode cL_route 157 = .ok (.bipush 19, 2) := by decide +kernel
theorem dL_route_159 : decode cL_route 159 = .ok (.dup2, 1) := by decide +kernel
theorem dL_route_160 : decode cL_route 160 = .ok (.iaload, 1) := by decide +kernel
theorem dL_route_161 : decode cL_route 161 = .ok (.iconst 1, 1) := by decide +kernel
theorem dL_route_162 : decode cL_route 162 = .ok (.iadd, 1) := by decide +kernel
theorem dL_route_163 : decode cL_route 163 = .ok (.iastore, 1) := by decide +kernel
theorem dL_route_164 : decode cL_route 164 = .ok (.aload 7, 2) := by decide +kernel
theorem dL_route_166 : decode cL_route 166 = .ok (.bipush 10, 2) := by decide +kernel
theorem dL_route_168 : decode cL_route 168 = .ok (.iload 12, 2) := by decide +kernel
theorem dL_route_170 : decode cL_route 170 = .ok (.iadd, 1) := by decide +kernel
theorem dL_route_171 : decode cL_route 171 = .ok (.dup2, 1) := by decide +kernel
theorem dL_route_172 : decode cL_route 172 = .ok (.iaload, 1) := by decide +kernel
theorem dL_route_173 : decode cL_route 173 = .ok (.iload 15, 2) := by decide +kernel
theorem dL_route_175 : decode cL_route 175 = .ok (.iadd, 1) := by decide +kernel
theorem dL_route_176 : decode cL_route 176 = .ok (.iastore, 1) := by decide +kernel
theorem dL_route_177 : decode cL_route 177 = .ok (.aload 11, 2) := by decide +kernel
theorem dL_route_179 : decode cL_route 179 = .ok (.iload 14, 2) := by decide +kernel
theorem dL_route_181 : decode cL_route 181 = .ok (.dup2, 1) := by decide +kernel
theorem dL_route_182 : decode cL_route 182 = .ok (.iaload, 1) := by decide +kernel
theorem dL_route_183 : decode cL_route 183 = .ok (.iload 15, 2) := by decide +kernel
theorem dL_route_185 : decode cL_route 185 = .ok (.isub, 1) := by decide +kernel
theorem dL_route_186 : decode cL_route 186 = .ok (.iastore, 1) := by decide +kernel
theorem dL_route_187 : decode cL_route 187 = .ok (.aload 5, 2) := by decide +kernel
theorem dL_route_189 : decode cL_route 189 = .ok (.aload 9, 2) := by decide +kernel
theorem dL_route_191 : decode cL_route 191 = .ok (.aload 11, 2) := by decide +kernel
theorem dL_route_193 : decode cL_route 193 = .ok (.iload 12, 2) := by decide +kernel
theorem dL_route_195 : decode cL_route 195 = .ok (.invokestatic 141, 3) := by decide +kernel
theorem dL_route_198 : decode cL_route 198 = .ok (.istore 14, 2) := by decide +kernel
theorem dL_route_200 : decode cL_route 200 = .ok (.goto (-181), 3) := by decide +kernel
theorem dL_route_203 : decode cL_route 203 = .ok (.aload_n 0, 1) := by decide +kernel
theorem dL_route_204 : decode cL_route 204 = .ok (.bipush 19, 2) := by decide +kernel
theorem dL_route_206 : decode cL_route 206 = .ok (.iaload, 1) := by decide +kernel
theorem dL_route_207 : decode cL_route 207 = .ok (.iload 13, 2) := by decide +kernel
theorem dL_route_209 : decode cL_route 209 = .ok (.if_icmp .le 27, 3) := by decide +kernel
theorem dL_route_212 : decode cL_route 212 = .ok (.aload_n 0, 1) := by decide +kernel
theorem dL_route_213 : decode cL_route 213 = .ok (.aload_n 1, 1) := by decide +kernel
theorem dL_route_214 : decode cL_route 214 = .ok (.aload_n 2, 1) := by decide +kernel
theorem dL_route_215 : decode cL_route 215 = .ok (.aload_n 3, 1) := by decide +kernel
theorem dL_route_216 : decode cL_route 216 = .ok (.aload 4, 2) := by decide +kernel
theorem dL_route_218 : decode cL_route 218 = .ok (.iconst 1, 1) := by decide +kernel
theorem dL_route_219 : decode cL_route 219 = .ok (.bipush 8, 2) := by decide +kernel
theorem dL_route_221 : decode cL_route 221 = .ok (.iconst 1, 1) := by decide +kernel
theorem dL_route_222 : decode cL_route 222 = .ok (.iload 12, 2) := by decide +kernel
theorem dL_route_224 : decode cL_route 224 = .ok (.iload 13, 2) := by decide +kernel
theorem dL_route_226 : decode cL_route 226 = .ok (.aload_n 0, 1) := by decide +kernel
theorem dL_route_227 : decode cL_route 227 = .ok (.bipush 19, 2) := by decide +kernel
theorem dL_route_229 : decode cL_route 229 = .ok (.iaload, 1) := by decide +kernel
theorem dL_route_230 : decode cL_route 230 = .ok (.iload 13, 2) := by decide +kernel
theorem dL_route_232 : decode cL_route 232 = .ok (.isub, 1) := by decide +kernel
theorem dL_route_233 : decode cL_route 233 = .ok (.invokestatic 129, 3) := by decide +kernel
theorem dL_route_236 : decode cL_route 236 = .ok (.return_, 1) := by decide +kernel
theorem dL_house_0 : decode cL_house 0 = .ok (.lload 12, 2) := by decide +kernel
theorem dL_house_2 : decode cL_house 2 = .ok (.ldc2_w 133, 3) := by decide +kernel
theorem dL_house_5 : decode cL_house 5 = .ok (.land, 1) := by decide +kernel
theorem dL_house_6 : decode cL_house 6 = .ok (.l2i, 1) := by decide +kernel
theorem dL_house_7 : decode cL_house 7 = .ok (.istore 14, 2) := by decide +kernel
theorem dL_house_9 : decode cL_house 9 = .ok (.lload 12, 2) := by decide +kernel
theorem dL_house_11 : decode cL_house 11 = .ok (.iconst 5, 1) := by decide +kernel
theorem dL_house_12 : decode cL_house 12 = .ok (.invokestatic 135, 3) := by decide +kernel
theorem dL_house_15 : decode cL_house 15 = .ok (.istore 15, 2) := by decide +kernel
theorem dL_house_17 : decode cL_house 17 = .ok (.bipush 10, 2) := by decide +kernel
theorem dL_house_19 : decode cL_house 19 = .ok (.iload 15, 2) := by decide +kernel
theorem dL_house_21 : decode cL_house 21 = .ok (.iadd, 1) := by decide +kernel
theorem dL_house_22 : decode cL_house 22 = .ok (.istore 16, 2) := by decide +kernel
theorem dL_house_24 : decode cL_house 24 = .ok (.iload 14, 2) := by decide +kernel
theorem dL_house_26 : decode cL_house 26 = .ok (.iconst 5, 1) := by decide +kernel
theorem dL_house_27 : decode cL_house 27 = .ok (.if_icmp .ne 120, 3) := by decide +kernel
theorem dL_house_30 : decode cL_house 30 = .ok (.aload 9, 2) := by decide +kernel
theorem dL_house_32 : decode cL_house 32 = .ok (.iload 15, 2) := by decide +kernel
theorem dL_house_34 : decode cL_house 34 = .ok (.iaload, 1) := by decide +kernel
theorem dL_house_35 : decode cL_house 35 = .ok (.iconst 4, 1) := by decide +kernel
theorem dL_house_36 : decode cL_house 36 = .ok (.iand, 1) := by decide +kernel
theorem dL_house_37 : decode cL_house 37 = .ok (.ifCond .le 4, 3) := by decide +kernel
theorem dL_house_40 : decode cL_house 40 = .ok (.return_, 1) := by decide +kernel
theorem dL_house_41 : decode cL_house 41 = .ok (.aload 9, 2) := by decide +kernel
theorem dL_house_43 : decode cL_house 43 = .ok (.iload 15, 2) := by decide +kernel
theorem dL_house_45 : decode cL_house 45 = .ok (.dup2, 1) := by decide +kernel
theorem dL_house_46 : decode cL_house 46 = .ok (.iaload, 1) := by decide +kernel
theorem dL_house_47 : decode cL_house 47 = .ok (.iconst 4, 1) := by decide +kernel
theorem dL_house_48 : decode cL_house 48 = .ok (.ior, 1) := by decide +kernel
theorem dL_house_49 : decode cL_house 49 = .ok (.iastore, 1) := by decide +kernel
theorem dL_house_50 : decode cL_house 50 = .ok (.aload 5, 2) := by decide +kernel
theorem dL_house_52 : decode cL_house 52 = .ok (.iload 16, 2) := by decide +kernel
theorem dL_house_54 : decode cL_house 54 = .ok (.lload 12, 2) := by decide +kernel
theorem dL_house_56 : decode cL_house 56 = .ok (.bipush 21, 2) := by decide +kernel
theorem dL_house_58 : decode cL_house 58 = .ok (.invokestatic 135, 3) := by decide +kernel
theorem dL_house_61 : decode cL_house 61 = .ok (.iastore, 1) := by decide +kernel
theorem dL_house_62 : decode cL_house 62 = .ok (.aload 6, 2) := by decide +kernel
theorem dL_house_64 : decode cL_house 64 = .ok (.iload 16, 2) := by decide +kernel
theorem dL_house_66 : decode cL_house 66 = .ok (.lload 12, 2) := by decide +kernel
theorem dL_house_68 : decode cL_house 68 = .ok (.bipush 29, 2) := by decide +kernel
theorem dL_house_70 : decode cL_house 70 = .ok (.invokestatic 135, 3) := by decide +kernel
theorem dL_house_73 : decode cL_house 73 = .ok (.iastore, 1) := by decide +kernel
theorem dL_house_74 : decode cL_house 74 = .ok (.aload 9, 2) := by decide +kernel
theorem dL_house_76 : decode cL_house 76 = .ok (.iload 15, 2) := by decide +kernel
theorem dL_house_78 : decode cL_house 78 = .ok (.aload 9, 2) := by decide +kernel
theorem dL_house_80 : decode cL_house 80 = .ok (.iload 15, 2) := by decide +kernel
theorem dL_house_82 : decode cL_house 82 = .ok (.iaload, 1) := by decide +kernel
theorem dL_house_83 : decode cL_house 83 = .ok (.sipush 255, 3) := by decide +kernel
theorem dL_house_86 : decode cL_house 86 = .ok (.iand, 1) := by decide +kernel
theorem dL_house_87 : decode cL_house 87 = .ok (.aload_n 0, 1) := by decide +kernel
theorem dL_house_88 : decode cL_house 88 = .ok (.bipush 21, 2) := by decide +kernel
theorem dL_house_90 : decode cL_house 90 = .ok (.iaload, 1) := by decide +kernel
theorem dL_house_91 : decode cL_house 91 = .ok (.bipush 8, 2) := by decide +kernel
theorem dL_house_93 : decode cL_house 93 = .ok (.ishl, 1) := by decide +kernel
theorem dL_house_94 : decode cL_house 94 = .ok (.ior, 1) := by decide +kernel
theorem dL_house_95 : decode cL_house 95 = .ok (.iastore, 1) := by decide +kernel
theorem dL_house_96 : decode cL_house 96 = .ok (.aload_n 0, 1) := by decide +kernel
theorem dL_house_97 : decode cL_house 97 = .ok (.bipush 21, 2) := by decide +kernel
theorem dL_house_99 : decode cL_house 99 = .ok (.dup2, 1) := by decide +kernel
theorem dL_house_100 : decode cL_house 100 = .ok (.iaload, 1) := by decide +kernel
theorem dL_house_101 : decode cL_house 101 = .ok (.iconst 1, 1) := by decide +kernel
theorem dL_house_102 : decode cL_house 102 = .ok (.iadd, 1) := by decide +kernel
theorem dL_house_103 : decode cL_house 103 = .ok (.iastore, 1) := by decide +kernel
theorem dL_house_104 : decode cL_house 104 = .ok (.aload_n 0, 1) := by decide +kernel
theorem dL_house_105 : decode cL_house 105 = .ok (.aload_n 1, 1) := by decide +kernel
theorem dL_house_106 : decode cL_house 106 = .ok (.aload_n 2, 1) := by decide +kernel
theorem dL_house_107 : decode cL_house 107 = .ok (.aload_n 3, 1) := by decide +kernel
theorem dL_house_108 : decode cL_house 108 = .ok (.aload 4, 2) := by decide +kernel
theorem dL_house_110 : decode cL_house 110 = .ok (.iconst 1, 1) := by decide +kernel
theorem dL_house_111 : decode cL_house 111 = .ok (.bipush 8, 2) := by decide +kernel
theorem dL_house_113 : decode cL_house 113 = .ok (.iconst 0, 1) := by decide +kernel
theorem dL_house_114 : decode cL_house 114 = .ok (.iload 15, 2) := by decide +kernel
theorem dL_house_116 : decode cL_house 116 = .ok (.iconst 0, 1) := by decide +kernel
theorem dL_house_117 : decode cL_house 117 = .ok (.iconst 0, 1) := by decide +kernel
theorem dL_house_118 : decode cL_house 118 = .ok (.invokestatic 129, 3) := by decide +kernel
theorem dL_house_121 : decode cL_house 121 = .ok (.aload_n 0, 1) := by decide +kernel
theorem dL_house_122 : decode cL_house 122 = .ok (.aload_n 1, 1) := by decide +kernel
theorem dL_house_123 : decode cL_house 123 = .ok (.aload_n 2, 1) := by decide +kernel
theorem dL_house_124 : decode cL_house 124 = .ok (.aload_n 3, 1) := by decide +kernel
theorem dL_house_125 : decode cL_house 125 = .ok (.aload 4, 2) := by decide +kernel
theorem dL_house_127 : decode cL_house 127 = .ok (.aload 5, 2) := by decide +kernel
theorem dL_house_129 : decode cL_house 129 = .ok (.aload 6, 2) := by decide +kernel
theorem dL_house_131 : decode cL_house 131 = .ok (.aload 7, 2) := by decide +kernel
theorem dL_house_133 : decode cL_house 133 = .ok (.aload 8, 2) := by decide +kernel
theorem dL_house_135 : decode cL_house 135 = .ok (.aload 9, 2) := by decide +kernel
theorem dL_house_137 : decode cL_house 137 = .ok (.aload 10, 2) := by decide +kernel
theorem dL_house_139 : decode cL_house 139 = .ok (.aload 11, 2) := by decide +kernel
theorem dL_house_141 : decode cL_house 141 = .ok (.iload 15, 2) := by decide +kernel
theorem dL_house_143 : decode cL_house 143 = .ok (.invokestatic 150, 3) := by decide +kernel
theorem dL_house_146 : decode cL_house 146 = .ok (.return_, 1) := by decide +kernel
theorem dL_house_147 : decode cL_house 147 = .ok (.aload 9, 2) := by decide +kernel
theorem dL_house_149 : decode cL_house 149 = .ok (.iload 15, 2) := by decide +kernel
theorem dL_house_151 : decode cL_house 151 = .ok (.iaload, 1) := by decide +kernel
theorem dL_house_152 : decode cL_house 152 = .ok (.iconst 4, 1) := by decide +kernel
theorem dL_house_153 : decode cL_house 153 = .ok (.iand, 1) := by decide +kernel
theorem dL_house_154 : decode cL_house 154 = .ok (.ifCond .ne 7, 3) := by decide +kernel
theorem dL_house_157 : decode cL_house 157 = .ok (.iconst 0, 1) := by decide +kernel
theorem dL_house_158 : decode cL_house 158 = .ok (.goto 14, 3) := by decide +kernel
theorem dL_house_161 : decode cL_house 161 = .ok (.aload 6, 2) := by decide +kernel
theorem dL_house_163 : decode cL_house 163 = .ok (.aload 7, 2) := by decide +kernel
theorem dL_house_165 : decode cL_house 165 = .ok (.aload 8, 2) := by decide +kernel
theorem dL_house_167 : decode cL_house 167 = .ok (.iload 16, 2) := by decide +kernel
theorem dL_house_169 : decode cL_house 169 = .ok (.invokestatic 145, 3) := by decide +kernel
theorem dL_house_172 : decode cL_house 172 = .ok (.istore 17, 2) := by decide +kernel
theorem dL_house_174 : decode cL_house 174 = .ok (.iload 17, 2) := by decide +kernel
theorem dL_house_176 : decode cL_house 176 = .ok (.ifCond .eq 31, 3) := by decide +kernel
theorem dL_house_179 : decode cL_house 179 = .ok (.iload 14, 2) := by decide +kernel
theorem dL_house_181 : decode cL_house 181 = .ok (.bipush 7, 2) := by decide +kernel
theorem dL_house_183 : decode cL_house 183 = .ok (.if_icmp .ne 42, 3) := by decide +kernel
theorem dL_house_186 : decode cL_house 186 = .ok (.lload 12, 2) := by decide +kernel
theorem dL_house_188 : decode cL_house 188 = .ok (.bipush 21, 2) := by decide +kernel
theorem dL_house_190 : decode cL_house 190 = .ok (.invokestatic 135, 3) := by decide +kernel
theorem dL_house_193 : decode cL_house 193 = .ok (.aload 7, 2) := by decide +kernel
theorem dL_house_195 : decode cL_house 195 = .ok (.iload 16, 2) := by decide +kernel
theorem dL_house_197 : decode cL_house 197 = .ok (.iaload, 1) := by decide +kernel
theorem dL_house_198 : decode cL_house 198 = .ok (.aload 8, 2) := by decide +kernel
theorem dL_house_200 : decode cL_house 200 = .ok (.iload 16, 2) := by decide +kernel
theorem dL_house_202 : decode cL_house 202 = .ok (.iaload, 1) := by decide +kernel
theorem dL_house_203 : decode cL_house 203 = .ok (.iadd, 1) := by decide +kernel
theorem dL_house_204 : decode cL_house 204 = .ok (.if_icmp .gt 21, 3) := by decide +kernel
theorem dL_house_207 : decode cL_house 207 = .ok (.aload_n 0, 1) := by decide +kernel
theorem dL_house_208 : decode cL_house 208 = .ok (.aload_n 1, 1) := by decide +kernel
theorem dL_house_209 : decode cL_house 209 = .ok (.aload_n 2, 1) := by decide +kernel
theorem dL_house_210 : decode cL_house 210 = .ok (.aload_n 3, 1) := by decide +kernel
theorem dL_house_211 : decode cL_house 211 = .ok (.aload 4, 2) := by decide +kernel
theorem dL_house_213 : decode cL_house 213 = .ok (.iconst 1, 1) := by decide +kernel
theorem dL_house_214 : decode cL_house 214 = .ok (.bipush 8, 2) := by decide +kernel
theorem dL_house_216 : decode cL_house 216 = .ok (.iconst 4, 1) := by decide +kernel
theorem dL_house_217 : decode cL_house 217 = .ok (.iload 15, 2) := by decide +kernel
theorem dL_house_219 : decode cL_house 219 = .ok (.iconst 0, 1) := by decide +kernel
theorem dL_house_220 : decode cL_house 220 = .ok (.iconst 0, 1) := by decide +kernel
theorem dL_house_221 : decode cL_house 221 = .ok (.invokestatic 129, 3) := by decide +kernel
theorem dL_house_224 : decode cL_house 224 = .ok (.return_, 1) := by decide +kernel
theorem dL_house_225 : decode cL_house 225 = .ok (.iload 14, 2) := by decide +kernel
theorem dL_house_227 : decode cL_house 227 = .ok (.bipush 6, 2) := by decide +kernel
theorem dL_house_229 : decode cL_house 229 = .ok (.if_icmp .ne 32, 3) := by decide +kernel
theorem dL_house_232 : decode cL_house 232 = .ok (.aload 8, 2) := by decide +kernel
theorem dL_house_234 : decode cL_house 234 = .ok (.iload 16, 2) := by decide +kernel
theorem dL_house_236 : decode cL_house 236 = .ok (.dup2, 1) := by decide +kernel
theorem dL_house_237 : decode cL_house 237 = .ok (.iaload, 1) := by decide +kernel
theorem dL_house_238 : decode cL_house 238 = .ok (.iload 17, 2) := by decide +kernel
theorem dL_house_240 : decode cL_house 240 = .ok (.iadd, 1) := by decide +kernel
theorem dL_house_241 : decode cL_house 241 = .ok (.iastore, 1) := by decide +kernel
theorem dL_house_242 : decode cL_house 242 = .ok (.aload_n 0, 1) := by decide +kernel
theorem dL_house_243 : decode cL_house 243 = .ok (.aload_n 1, 1) := by decide +kernel
theorem dL_house_244 : decode cL_house 244 = .ok (.aload_n 2, 1) := by decide +kernel
theorem dL_house_245 : decode cL_house 245 = .ok (.aload_n 3, 1) := by decide +kernel
theorem dL_house_246 : decode cL_house 246 = .ok (.aload 4, 2) := by decide +kernel
theorem dL_house_248 : decode cL_house 248 = .ok (.iconst 1, 1) := by decide +kernel
theorem dL_house_249 : decode cL_house 249 = .ok (.bipush 8, 2) := by decide +kernel
theorem dL_house_251 : decode cL_house 251 = .ok (.iconst 2, 1) := by decide +kernel
theorem dL_house_252 : decode cL_house 252 = .ok (.iload 15, 2) := by decide +kernel
theorem dL_house_254 : decode cL_house 254 = .ok (.iload 17, 2) := by decide +kernel
theorem dL_house_256 : decode cL_house 256 = .ok (.iconst 0, 1) := by decide +kernel
theorem dL_house_257 : decode cL_house 257 = .ok (.invokestatic 129, 3) := by decide +kernel
theorem dL_house_260 : decode cL_house 260 = .ok (.return_, 1) := by decide +kernel
theorem dL_house_261 : decode cL_house 261 = .ok (.aload 5, 2) := by decide +kernel
theorem dL_house_263 : decode cL_house 263 = .ok (.iload 16, 2) := by decide +kernel
theorem dL_house_265 : decode cL_house 265 = .ok (.lload 12, 2) := by decide +kernel
theorem dL_house_267 : decode cL_house 267 = .ok (.bipush 13, 2) := by decide +kernel
theorem dL_house_269 : decode cL_house 269 = .ok (.invokestatic 135, 3) := by decide +kernel
theorem dL_house_272 : decode cL_house 272 = .ok (.iastore, 1) := by decide +kernel
theorem dL_house_273 : decode cL_house 273 = .ok (.aload 6, 2) := by decide +kernel
theorem dL_house_275 : decode cL_house 275 = .ok (.iload 16, 2) := by decide +kernel
theorem dL_house_277 : decode cL_house 277 = .ok (.lload 12, 2) := by decide +kernel
theorem dL_house_279 : decode cL_house 279 = .ok (.bipush 21, 2) := by decide +kernel
theorem dL_house_281 : decode cL_house 281 = .ok (.invokestatic 135, 3) := by decide +kernel
theorem dL_house_284 : decode cL_house 284 = .ok (.iastore, 1) := by decide +kernel
theorem dL_house_285 : decode cL_house 285 = .ok (.aload 9, 2) := by decide +kernel
theorem dL_house_287 : decode cL_house 287 = .ok (.iload 15, 2) := by decide +kernel
theorem dL_house_289 : decode cL_house 289 = .ok (.aload 9, 2) := by decide +kernel
theorem dL_house_291 : decode cL_house 291 = .ok (.iload 15, 2) := by decide +kernel
theorem dL_house_293 : decode cL_house 293 = .ok (.iaload, 1) := by decide +kernel
theorem dL_house_294 : decode cL_house 294 = .ok (.sipush 255, 3) := by decide +kernel
theorem dL_house_297 : decode cL_house 297 = .ok (.iand, 1) := by decide +kernel
theorem dL_house_298 : decode cL_house 298 = .ok (.aload_n 0, 1) := by decide +kernel
theorem dL_house_299 : decode cL_house 299 = .ok (.bipush 21, 2) := by decide +kernel
theorem dL_house_301 : decode cL_house 301 = .ok (.iaload, 1) := by decide +kernel
theorem dL_house_302 : decode cL_house 302 = .ok (.bipush 8, 2) := by decide +kernel
theorem dL_house_304 : decode cL_house 304 = .ok (.ishl, 1) := by decide +kernel
theorem dL_house_305 : decode cL_house 305 = .ok (.ior, 1) := by decide +kernel
theorem dL_house_306 : decode cL_house 306 = .ok (.iastore, 1) := by decide +kernel
theorem dL_house_307 : decode cL_house 307 = .ok (.aload_n 0, 1) := by decide +kernel
theorem dL_house_308 : decode cL_house 308 = .ok (.bipush 21, 2) := by decide +kernel
theorem dL_house_310 : decode cL_house 310 = .ok (.dup2, 1) := by decide +kernel
theorem dL_house_311 : decode cL_house 311 = .ok (.iaload, 1) := by decide +kernel
theorem dL_house_312 : decode cL_house 312 = .ok (.iconst 1, 1) := by decide +kernel
theorem dL_house_313 : decode cL_house 313 = .ok (.iadd, 1) := by decide +kernel
theorem dL_house_314 : decode cL_house 314 = .ok (.iastore, 1) := by decide +kernel
theorem dL_house_315 : decode cL_house 315 = .ok (.aload_n 0, 1) := by decide +kernel
theorem dL_house_316 : decode cL_house 316 = .ok (.aload_n 1, 1) := by decide +kernel
theorem dL_house_317 : decode cL_house 317 = .ok (.aload_n 2, 1) := by decide +kernel
theorem dL_house_318 : decode cL_house 318 = .ok (.aload_n 3, 1) := by decide +kernel
theorem dL_house_319 : decode cL_house 319 = .ok (.aload 4, 2) := by decide +kernel
theorem dL_house_321 : decode cL_house 321 = .ok (.iconst 1, 1) := by decide +kernel
theorem dL_house_322 : decode cL_house 322 = .ok (.bipush 8, 2) := by decide +kernel
theorem dL_house_324 : decode cL_house 324 = .ok (.iconst 3, 1) := by decide +kernel
theorem dL_house_325 : decode cL_house 325 = .ok (.iload 15, 2) := by decide +kernel
theorem dL_house_327 : decode cL_house 327 = .ok (.aload 5, 2) := by decide +kernel
theorem dL_house_329 : decode cL_house 329 = .ok (.iload 16, 2) := by decide +kernel
theorem dL_house_331 : decode cL_house 331 = .ok (.iaload, 1) := by decide +kernel
theorem dL_house_332 : decode cL_house 332 = .ok (.aload 6, 2) := by decide +kernel
theorem dL_house_334 : decode cL_house 334 = .ok (.iload 16, 2) := by decide +kernel
theorem dL_house_336 : decode cL_house 336 = .ok (.iaload, 1) := by decide +kernel
theorem dL_house_337 : decode cL_house 337 = .ok (.invokestatic 129, 3) := by decide +kernel
theorem dL_house_340 : decode cL_house 340 = .ok (.aload_n 0, 1) := by decide +kernel
theorem dL_house_341 : decode cL_house 341 = .ok (.aload_n 1, 1) := by decide +kernel
theorem dL_house_342 : decode cL_house 342 = .ok (.aload_n 2, 1) := by decide +kernel
theorem dL_house_343 : decode cL_house 343 = .ok (.aload_n 3, 1) := by decide +kernel
theorem dL_house_344 : decode cL_house 344 = .ok (.aload 4, 2) := by decide +kernel
theorem dL_house_346 : decode cL_house 346 = .ok (.aload 5, 2) := by decide +kernel
theorem dL_house_348 : decode cL_house 348 = .ok (.aload 6, 2) := by decide +kernel
theorem dL_house_350 : decode cL_house 350 = .ok (.aload 7, 2) := by decide +kernel
theorem dL_house_352 : decode cL_house 352 = .ok (.aload 8, 2) := by decide +kernel
theorem dL_house_354 : decode cL_house 354 = .ok (.aload 9, 2) := by decide +kernel
theorem dL_house_356 : decode cL_house 356 = .ok (.aload 10, 2) := by decide +kernel
theorem dL_house_358 : decode cL_house 358 = .ok (.aload 11, 2) := by decide +kernel
theorem dL_house_360 : decode cL_house 360 = .ok (.iload 15, 2) := by decide +kernel
theorem dL_house_362 : decode cL_house 362 = .ok (.invokestatic 150, 3) := by decide +kernel
theorem dL_house_365 : decode cL_house 365 = .ok (.return_, 1) := by decide +kernel
theorem dL_price_0 : decode cL_price 0 = .ok (.lload_n 0, 1) := by decide +kernel
theorem dL_price_1 : decode cL_price 1 = .ok (.iload_n 2, 1) := by decide +kernel
theorem dL_price_2 : decode cL_price 2 = .ok (.lshr, 1) := by decide +kernel
theorem dL_price_3 : decode cL_price 3 = .ok (.ldc2_w 154, 3) := by decide +kernel
theorem dL_price_6 : decode cL_price 6 = .ok (.land, 1) := by decide +kernel
theorem dL_price_7 : decode cL_price 7 = .ok (.l2i, 1) := by decide +kernel
theorem dL_price_8 : decode cL_price 8 = .ok (.ireturn, 1) := by decide +kernel
theorem dL_size_0 : decode cL_size 0 = .ok (.lload_n 0, 1) := by decide +kernel
theorem dL_size_1 : decode cL_size 1 = .ok (.bipush 14, 2) := by decide +kernel
theorem dL_size_3 : decode cL_size 3 = .ok (.lshr, 1) := by decide +kernel
theorem dL_size_4 : decode cL_size 4 = .ok (.ldc2_w 154, 3) := by decide +kernel
theorem dL_size_7 : decode cL_size 7 = .ok (.land, 1) := by decide +kernel
theorem dL_size_8 : decode cL_size 8 = .ok (.l2i, 1) := by decide +kernel
theorem dL_size_9 : decode cL_size 9 = .ok (.ireturn, 1) := by decide +kernel
theorem dL_trader_0 : decode cL_trader 0 = .ok (.lload 6, 2) := by decide +kernel
theorem dL_trader_2 : decode cL_trader 2 = .ok (.iconst 5, 1) := by decide +kernel
theorem dL_trader_3 : decode cL_trader 3 = .ok (.invokestatic 135, 3) := by decide +kernel
theorem dL_trader_6 : decode cL_trader 6 = .ok (.istore 8, 2) := by decide +kernel
theorem dL_trader_8 : decode cL_trader 8 = .ok (.lload 6, 2) := by decide +kernel
theorem dL_trader_10 : decode cL_trader 10 = .ok (.bipush 13, 2) := by decide +kernel
theorem dL_trader_12 : decode cL_trader 12 = .ok (.invokestatic 135, 3) := by decide +kernel
theorem dL_trader_15 : decode cL_trader 15 = .ok (.istore 9, 2) := by decide +kernel
theorem dL_trader_17 : decode cL_trader 17 = .ok (.lload 6, 2) := by decide +kernel
theorem dL_trader_19 : decode cL_trader 19 = .ok (.bipush 21, 2) := by decide +kernel
theorem dL_trader_21 : decode cL_trader 21 = .ok (.invokestatic 135, 3) := by decide +kernel
theorem dL_trader_24 : decode cL_trader 24 = .ok (.istore 10, 2) := by decide +kernel
theorem dL_trader_26 : decode cL_trader 26 = .ok (.lload 6, 2) := by decide +kernel
theorem dL_trader_28 : decode cL_trader 28 = .ok (.bipush 29, 2) := by decide +kernel
theorem dL_trader_30 : decode cL_trader 30 = .ok (.invokestatic 135, 3) := by decide +kernel
theorem dL_trader_33 : decode cL_trader 33 = .ok (.istore 11, 2) := by decide +kernel
theorem dL_trader_35 : decode cL_trader 35 = .ok (.iload 8, 2) := by decide +kernel
theorem dL_trader_37 : decode cL_trader 37 = .ok (.ifCond .ne 12, 3) := by decide +kernel
theorem dL_trader_40 : decode cL_trader 40 = .ok (.aload 4, 2) := by decide +kernel
theorem dL_trader_42 : decode cL_trader 42 = .ok (.iload 9, 2) := by decide +kernel
theorem dL_trader_44 : decode cL_trader 44 = .ok (.dup2, 1) := by decide +kernel
theorem dL_trader_45 : decode cL_trader 45 = .ok (.iaload, 1) := by decide +kernel
theorem dL_trader_46 : decode cL_trader 46 = .ok (.iconst 2, 1) := by decide +kernel
theorem dL_trader_47 : decode cL_trader 47 = .ok (.ior, 1) := by decide +kernel
theorem dL_trader_48 : decode cL_trader 48 = .ok (.iastore, 1) := by decide +kernel
theorem dL_trader_49 : decode cL_trader 49 = .ok (.iload 10, 2) := by decide +kernel
theorem dL_trader_51 : decode cL_trader 51 = .ok (.istore 12, 2) := by decide +kernel
theorem dL_trader_53 : decode cL_trader 53 = .ok (.iload 12, 2) := by decide +kernel
theorem dL_trader_55 : decode cL_trader 55 = .ok (.iload 10, 2) := by decide +kernel
theorem dL_trader_57 : decode cL_trader 57 = .ok (.iload 11, 2) := by decide +kernel
theorem dL_trader_59 : decode cL_trader 59 = .ok (.iadd, 1) := by decide +kernel
theorem dL_trader_60 : decode cL_trader 60 = .ok (.if_icmp .ge 63, 3) := by decide +kernel
theorem dL_trader_63 : decode cL_trader 63 = .ok (.iload 8, 2) := by decide +kernel
theorem dL_trader_65 : decode cL_trader 65 = .ok (.iconst 1, 1) := by decide +kernel
theorem dL_trader_66 : decode cL_trader 66 = .ok (.if_icmp .ne 57, 3) := by decide +kernel
theorem dL_trader_69 : decode cL_trader 69 = .ok (.aload_n 2, 1) := by decide +kernel
theorem dL_trader_70 : decode cL_trader 70 = .ok (.iload 9, 2) := by decide +kernel
theorem dL_trader_72 : decode cL_trader 72 = .ok (.dup2, 1) := by decide +kernel
theorem dL_trader_73 : decode cL_trader 73 = .ok (.iaload, 1) := by decide +kernel
theorem dL_trader_74 : decode cL_trader 74 = .ok (.aload 5, 2) := by decide +kernel
theorem dL_trader_76 : decode cL_trader 76 = .ok (.iload 12, 2) := by decide +kernel
theorem dL_trader_78 : decode cL_trader 78 = .ok (.laload, 1) := by decide +kernel
theorem dL_trader_79 : decode cL_trader 79 = .ok (.invokestatic 156, 3) := by decide +kernel
theorem dL_trader_82 : decode cL_trader 82 = .ok (.iadd, 1) := by decide +kernel
theorem dL_trader_83 : decode cL_trader 83 = .ok (.iastore, 1) := by decide +kernel
theorem dL_trader_84 : decode cL_trader 84 = .ok (.aload 5, 2) := by decide +kernel
theorem dL_trader_86 : decode cL_trader 86 = .ok (.iload 12, 2) := by decide +kernel
theorem dL_trader_88 : decode cL_trader 88 = .ok (.aload 5, 2) := by decide +kernel
theorem dL_trader_90 : decode cL_trader 90 = .ok (.iload 12, 2) := by decide +kernel
theorem dL_trader_92 : decode cL_trader 92 = .ok (.laload, 1) := by decide +kernel
theorem dL_trader_93 : decode cL_trader 93 = .ok (.ldc2_w 160, 3) := by decide +kernel
theorem dL_trader_96 : decode cL_trader 96 = .ok (.land, 1) := by decide +kernel
theorem dL_trader_97 : decode cL_trader 97 = .ok (.aload 5, 2) := by decide +kernel
theorem dL_trader_99 : decode cL_trader 99 = .ok (.iload 12, 2) := by decide +kernel
theorem dL_trader_101 : decode cL_trader 101 = .ok (.laload, 1) := by decide +kernel
theorem dL_trader_102 : decode cL_trader 102 = .ok (.bipush 21, 2) := by decide +kernel
theorem dL_trader_104 : decode cL_trader 104 = .ok (.invokestatic 162, 3) := by decide +kernel
theorem dL_trader_107 : decode cL_trader 107 = .ok (.i2l, 1) := by decide +kernel
theorem dL_trader_108 : decode cL_trader 108 = .ok (.bipush 35, 2) := by decide +kernel
theorem dL_trader_110 : decode cL_trader 110 = .ok (.lshl, 1) := by decide +kernel
theorem dL_trader_111 : decode cL_trader 111 = .ok (.lor, 1) := by decide +kernel
theorem dL_trader_112 : decode cL_trader 112 = .ok (.ldc2_w 165, 3) := by decide +kernel
theorem dL_trader_115 : decode cL_trader 115 = .ok (.lor, 1) := by decide +kernel
theorem dL_trader_116 : decode cL_trader 116 = .ok (.lastore, 1) := by decide +kernel
theorem dL_trader_117 : decode cL_trader 117 = .ok (.iinc 12 1, 3) := by decide +kernel
theorem dL_trader_120 : decode cL_trader 120 = .ok (.goto (-67), 3) := by decide +kernel
theorem dL_trader_123 : decode cL_trader 123 = .ok (.iload 8, 2) := by decide +kernel
theorem dL_trader_125 : decode cL_trader 125 = .ok (.iconst 2, 1) := by decide +kernel
theorem dL_trader_126 : decode cL_trader 126 = .ok (.if_icmp .ne 12, 3) := by decide +kernel
theorem dL_trader_129 : decode cL_trader 129 = .ok (.aload_n 3, 1) := by decide +kernel
theorem dL_trader_130 : decode cL_trader 130 = .ok (.iload 9, 2) := by decide +kernel
theorem dL_trader_132 : decode cL_trader 132 = .ok (.dup2, 1) := by decide +kernel
theorem dL_trader_133 : decode cL_trader 133 = .ok (.iaload, 1) := by decide +kernel
theorem dL_trader_134 : decode cL_trader 134 = .ok (.iload 10, 2) := by decide +kernel
theorem dL_trader_136 : decode cL_trader 136 = .ok (.iadd, 1) := by decide +kernel
theorem dL_trader_137 : decode cL_trader 137 = .ok (.iastore, 1) := by decide +kernel
theorem dL_trader_138 : decode cL_trader 138 = .ok (.iload 8, 2) := by decide +kernel
theorem dL_trader_140 : decode cL_trader 140 = .ok (.iconst 3, 1) := by decide +kernel
theorem dL_trader_141 : decode cL_trader 141 = .ok (.if_icmp .ne 15, 3) := by decide +kernel
theorem dL_trader_144 : decode cL_trader 144 = .ok (.aload_n 0, 1) := by decide +kernel
theorem dL_trader_145 : decode cL_trader 145 = .ok (.iload 9, 2) := by decide +kernel
theorem dL_trader_147 : decode cL_trader 147 = .ok (.iload 10, 2) := by decide +kernel
theorem dL_trader_149 : decode cL_trader 149 = .ok (.iastore, 1) := by decide +kernel
theorem dL_trader_150 : decode cL_trader 150 = .ok (.aload_n 1, 1) := by decide +kernel
theorem dL_trader_151 : decode cL_trader 151 = .ok (.iload 9, 2) := by decide +kernel
theorem dL_trader_153 : decode cL_trader 153 = .ok (.iload 11, 2) := by decide +kernel
theorem dL_trader_155 : decode cL_trader 155 = .ok (.iastore, 1) := by decide +kernel
theorem dL_trader_156 : decode cL_trader 156 = .ok (.iload 8, 2) := by decide +kernel
theorem dL_trader_158 : decode cL_trader 158 = .ok (.iconst 1, 1) := by decide +kernel
theorem dL_trader_159 : decode cL_trader 159 = .ok (.if_icmp .le 32, 3) := by decide +kernel
theorem dL_trader_162 : decode cL_trader 162 = .ok (.iload 8, 2) := by decide +kernel
theorem dL_trader_164 : decode cL_trader 164 = .ok (.iconst 5, 1) := by decide +kernel
theorem dL_trader_165 : decode cL_trader 165 = .ok (.if_icmp .ge 26, 3) := by decide +kernel
theorem dL_trader_168 : decode cL_trader 168 = .ok (.aload 4, 2) := by decide +kernel
theorem dL_trader_170 : decode cL_trader 170 = .ok (.iload 9, 2) := by decide +kernel
theorem dL_trader_172 : decode cL_trader 172 = .ok (.iaload, 1) := by decide +kernel
theorem dL_trader_173 : decode cL_trader 173 = .ok (.iconst 4, 1) := by decide +kernel
theorem dL_trader_174 : decode cL_trader 174 = .ok (.ishr, 1) := by decide +kernel
theorem dL_trader_175 : decode cL_trader 175 = .ok (.bipush 7, 2) := by decide +kernel
theorem dL_trader_177 : decode cL_trader 177 = .ok (.iand, 1) := by decide +kernel
theorem dL_trader_178 : decode cL_trader 178 = .ok (.ifCond .le 13, 3) := by decide +kernel
theorem dL_trader_181 : decode cL_trader 181 = .ok (.aload 4, 2) := by decide +kernel
theorem dL_trader_183 : decode cL_trader 183 = .ok (.iload 9, 2) := by decide +kernel
theorem dL_trader_185 : decode cL_trader 185 = .ok (.dup2, 1) := by decide +kernel
theorem dL_trader_186 : decode cL_trader 186 = .ok (.iaload, 1) := by decide +kernel
theorem dL_trader_187 : decode cL_trader 187 = .ok (.bipush 16, 2) := by decide +kernel
theorem dL_trader_189 : decode cL_trader 189 = .ok (.isub, 1) := by decide +kernel
theorem dL_trader_190 : decode cL_trader 190 = .ok (.iastore, 1) := by decide +kernel
theorem dL_trader_191 : decode cL_trader 191 = .ok (.iload 8, 2) := by decide +kernel
theorem dL_trader_193 : decode cL_trader 193 = .ok (.iconst 5, 1) := by decide +kernel
theorem dL_trader_194 : decode cL_trader 194 = .ok (.if_icmp .lt 18, 3) := by decide +kernel
theorem dL_trader_197 : decode cL_trader 197 = .ok (.aload 5, 2) := by decide +kernel
theorem dL_trader_199 : decode cL_trader 199 = .ok (.iload 10, 2) := by decide +kernel
theorem dL_trader_201 : decode cL_trader 201 = .ok (.laload, 1) := by decide +kernel
theorem dL_trader_202 : decode cL_trader 202 = .ok (.bipush 42, 2) := by decide +kernel
theorem dL_trader_204 : decode cL_trader 204 = .ok (.lshr, 1) := by decide +kernel
theorem dL_trader_205 : decode cL_trader 205 = .ok (.lconst 1, 1) := by decide +kernel
theorem dL_trader_206 : decode cL_trader 206 = .ok (.land, 1) := by decide +kernel
theorem dL_trader_207 : decode cL_trader 207 = .ok (.lconst 0, 1) := by decide +kernel
theorem dL_trader_208 : decode cL_trader 208 = .ok (.lcmp, 1) := by decide +kernel
theorem dL_trader_209 : decode cL_trader 209 = .ok (.ifCond .ne 4, 3) := by decide +kernel
theorem dL_trader_212 : decode cL_trader 212 = .ok (.return_, 1) := by decide +kernel
theorem dL_trader_213 : decode cL_trader 213 = .ok (.iload 8, 2) := by decide +kernel
theorem dL_trader_215 : decode cL_trader 215 = .ok (.iconst 5, 1) := by decide +kernel
theorem dL_trader_216 : decode cL_trader 216 = .ok (.if_icmp .ne 47, 3) := by decide +kernel
theorem dL_trader_219 : decode cL_trader 219 = .ok (.aload_n 2, 1) := by decide +kernel
theorem dL_trader_220 : decode cL_trader 220 = .ok (.iload 9, 2) := by decide +kernel
theorem dL_trader_222 : decode cL_trader 222 = .ok (.dup2, 1) := by decide +kernel
theorem dL_trader_223 : decode cL_trader 223 = .ok (.iaload, 1) := by decide +kernel
theorem dL_trader_224 : decode cL_trader 224 = .ok (.aload 5, 2) := by decide +kernel
theorem dL_trader_226 : decode cL_trader 226 = .ok (.iload 10, 2) := by decide +kernel
theorem dL_trader_228 : decode cL_trader 228 = .ok (.laload, 1) := by decide +kernel
theorem dL_trader_229 : decode cL_trader 229 = .ok (.invokestatic 156, 3) := by decide +kernel
theorem dL_trader_232 : decode cL_trader 232 = .ok (.isub, 1) := by decide +kernel
theorem dL_trader_233 : decode cL_trader 233 = .ok (.iastore, 1) := by decide +kernel
theorem dL_trader_234 : decode cL_trader 234 = .ok (.aload_n 3, 1) := by decide +kernel
theorem dL_trader_235 : decode cL_trader 235 = .ok (.iload 9, 2) := by decide +kernel
theorem dL_trader_237 : decode cL_trader 237 = .ok (.dup2, 1) := by decide +kernel
theorem dL_trader_238 : decode cL_trader 238 = .ok (.iaload, 1) := by decide +kernel
theorem dL_trader_239 : decode cL_trader 239 = .ok (.aload 5, 2) := by decide +kernel
theorem dL_trader_241 : decode cL_trader 241 = .ok (.iload 10, 2) := by decide +kernel
theorem dL_trader_243 : decode cL_trader 243 = .ok (.laload, 1) := by decide +kernel
theorem dL_trader_244 : decode cL_trader 244 = .ok (.invokestatic 156, 3) := by decide +kernel
theorem dL_trader_247 : decode cL_trader 247 = .ok (.iadd, 1) := by decide +kernel
theorem dL_trader_248 : decode cL_trader 248 = .ok (.iastore, 1) := by decide +kernel
theorem dL_trader_249 : decode cL_trader 249 = .ok (.aload 5, 2) := by decide +kernel
theorem dL_trader_251 : decode cL_trader 251 = .ok (.iload 10, 2) := by decide +kernel
theorem dL_trader_253 : decode cL_trader 253 = .ok (.dup2, 1) := by decide +kernel
theorem dL_trader_254 : decode cL_trader 254 = .ok (.laload, 1) := by decide +kernel
theorem dL_trader_255 : decode cL_trader 255 = .ok (.ldc2_w 167, 3) := by decide +kernel
theorem dL_trader_258 : decode cL_trader 258 = .ok (.lor, 1) := by decide +kernel
theorem dL_trader_259 : decode cL_trader 259 = .ok (.lastore, 1) := by decide +kernel
theorem dL_trader_260 : decode cL_trader 260 = .ok (.goto 24, 3) := by decide +kernel
theorem dL_trader_263 : decode cL_trader 263 = .ok (.aload 5, 2) := by decide +kernel
theorem dL_trader_265 : decode cL_trader 265 = .ok (.iload 10, 2) := by decide +kernel
theorem dL_trader_267 : decode cL_trader 267 = .ok (.aload 5, 2) := by decide +kernel
theorem dL_trader_269 : decode cL_trader 269 = .ok (.iload 10, 2) := by decide +kernel
theorem dL_trader_271 : decode cL_trader 271 = .ok (.laload, 1) := by decide +kernel
theorem dL_trader_272 : decode cL_trader 272 = .ok (.ldc2_w 160, 3) := by decide +kernel
theorem dL_trader_275 : decode cL_trader 275 = .ok (.land, 1) := by decide +kernel
theorem dL_trader_276 : decode cL_trader 276 = .ok (.iload 11, 2) := by decide +kernel
theorem dL_trader_278 : decode cL_trader 278 = .ok (.i2l, 1) := by decide +kernel
theorem dL_trader_279 : decode cL_trader 279 = .ok (.bipush 35, 2) := by decide +kernel
theorem dL_trader_281 : decode cL_trader 281 = .ok (.lshl, 1) := by decide +kernel
theorem dL_trader_282 : decode cL_trader 282 = .ok (.lor, 1) := by decide +kernel
theorem dL_trader_283 : decode cL_trader 283 = .ok (.lastore, 1) := by decide +kernel
theorem dL_trader_284 : decode cL_trader 284 = .ok (.return_, 1) := by decide +kernel
theorem dL_take_0 : decode cL_take 0 = .ok (.iload 15, 2) := by decide +kernel
theorem dL_take_2 : decode cL_take 2 = .ok (.istore 16, 2) := by decide +kernel
theorem dL_take_4 : decode cL_take 4 = .ok (.iload 14, 2) := by decide +kernel
theorem dL_take_6 : decode cL_take 6 = .ok (.ifCond .ne 8, 3) := by decide +kernel
theorem dL_take_9 : decode cL_take 9 = .ok (.aload 5, 2) := by decide +kernel
theorem dL_take_11 : decode cL_take 11 = .ok (.goto 5, 3) := by decide +kernel
theorem dL_take_14 : decode cL_take 14 = .ok (.aload 6, 2) := by decide +kernel
theorem dL_take_16 : decode cL_take 16 = .ok (.astore 17, 2) := by decide +kernel
theorem dL_take_18 : decode cL_take 18 = .ok (.iconst 1, 1) := by decide +kernel
theorem dL_take_19 : decode cL_take 19 = .ok (.istore 18, 2) := by decide +kernel
theorem dL_take_21 : decode cL_take 21 = .ok (.iload 18, 2) := by decide +kernel
theorem dL_take_23 : decode cL_take 23 = .ok (.ifCond .eq 249, 3) := by decide +kernel
theorem dL_take_26 : decode cL_take 26 = .ok (.aload_n 0, 1) := by decide +kernel
theorem dL_take_27 : decode cL_take 27 = .ok (.bipush 6, 2) := by decide +kernel
theorem dL_take_29 : decode cL_take 29 = .ok (.iload 14, 2) := by decide +kernel
theorem dL_take_31 : decode cL_take 31 = .ok (.iadd, 1) := by decide +kernel
theorem dL_take_32 : decode cL_take 32 = .ok (.iaload, 1) := by decide +kernel
theorem dL_take_33 : decode cL_take 33 = .ok (.istore 19, 2) := by decide +kernel
theorem dL_take_35 : decode cL_take 35 = .ok (.iload 14, 2) := by decide +kernel
theorem dL_take_37 : decode cL_take 37 = .ok (.ifCond .ne 8, 3) := by decide +kernel
theorem dL_take_40 : decode cL_take 40 = .ok (.aload 4, 2) := by decide +kernel
theorem dL_take_42 : decode cL_take 42 = .ok (.goto 4, 3) := by decide +kernel
theorem dL_take_45 : decode cL_take 45 = .ok (.aload_n 3, 1) := by decide +kernel
theorem dL_take_46 : decode cL_take 46 = .ok (.iload 19, 2) := by decide +kernel
theorem dL_take_48 : decode cL_take 48 = .ok (.laload, 1) := by decide +kernel
theorem dL_take_49 : decode cL_take 49 = .ok (.lstore 20, 2) := by decide +kernel
theorem dL_take_51 : decode cL_take 51 = .ok (.lload 20, 2) := by decide +kernel
theorem dL_take_53 : decode cL_take 53 = .ok (.ldc2_w 133, 3) := by decide +kernel
theorem dL_take_56 : decode cL_take 56 = .ok (.land, 1) := by decide +kernel
theorem dL_take_57 : decode cL_take 57 = .ok (.l2i, 1) := by decide +kernel
theorem dL_take_58 : decode cL_take 58 = .ok (.istore 22, 2) := by decide +kernel
theorem dL_take_60 : decode cL_take 60 = .ok (.aload_n 0, 1) := by decide +kernel
theorem dL_take_61 : decode cL_take 61 = .ok (.bipush 6, 2) := by decide +kernel
theorem dL_take_63 : decode cL_take 63 = .ok (.iload 14, 2) := by decide +kernel
theorem dL_take_65 : decode cL_take 65 = .ok (.iadd, 1) := by decide +kernel
theorem dL_take_66 : decode cL_take 66 = .ok (.iload 16, 2) := by decide +kernel
theorem dL_take_68 : decode cL_take 68 = .ok (.iload 19, 2) := by decide +kernel
theorem dL_take_70 : decode cL_take 70 = .ok (.iconst 1, 1) := by decide +kernel
theorem dL_take_71 : decode cL_take 71 = .ok (.iadd, 1) := by decide +kernel
theorem dL_take_72 : decode cL_take 72 = .ok (.if_icmp .le 8, 3) := by decide +kernel
theorem dL_take_75 : decode cL_take 75 = .ok (.iload 16, 2) := by decide +kernel
theorem dL_take_77 : decode cL_take 77 = .ok (.goto 7, 3) := by decide +kernel
theorem dL_take_80 : decode cL_take 80 = .ok (.iload 19, 2) := by decide +kernel
theorem dL_take_82 : decode cL_take 82 = .ok (.iconst 1, 1) := by decide +kernel
theorem dL_take_83 : decode cL_take 83 = .ok (.iadd, 1) := by decide +kernel
theorem dL_take_84 : decode cL_take 84 = .ok (.iastore, 1) := by decide +kernel
theorem dL_take_85 : decode cL_take 85 = .ok (.iload 16, 2) := by decide +kernel
theorem dL_take_87 : decode cL_take 87 = .ok (.ifCond .ne 25, 3) := by decide +kernel
theorem dL_take_90 : decode cL_take 90 = .ok (.iload 22, 2) := by decide +kernel
theorem dL_take_92 : decode cL_take 92 = .ok (.iconst 2, 1) := by decide +kernel
theorem dL_take_93 : decode cL_take 93 = .ok (.if_icmp .ne 19, 3) := by decide +kernel
theorem dL_take_96 : decode cL_take 96 = .ok (.aload_n 0, 1) := by decide +kernel
theorem dL_take_97 : decode cL_take 97 = .ok (.aload_n 1, 1) := by decide +kernel
theorem dL_take_98 : decode cL_take 98 = .ok (.aload_n 2, 1) := by decide +kernel
theorem dL_take_99 : decode cL_take 99 = .ok (.aload_n 3, 1) := by decide +kernel
theorem dL_take_100 : decode cL_take 100 = .ok (.aload 4, 2) := by decide +kernel
theorem dL_take_102 : decode cL_take 102 = .ok (.iload 14, 2) := by decide +kernel
theorem dL_take_104 : decode cL_take 104 = .ok (.iconst 1, 1) := by decide +kernel
theorem dL_take_105 : decode cL_take 105 = .ok (.iconst 0, 1) := by decide +kernel
theorem dL_take_106 : decode cL_take 106 = .ok (.iconst 0, 1) := by decide +kernel
theorem dL_take_107 : decode cL_take 107 = .ok (.iconst 0, 1) := by decide +kernel
theorem dL_take_108 : decode cL_take 108 = .ok (.iconst 0, 1) := by decide +kernel
theorem dL_take_109 : decode cL_take 109 = .ok (.invokestatic 129, 3) := by decide +kernel
theorem dL_take_112 : decode cL_take 112 = .ok (.iload 16, 2) := by decide +kernel
theorem dL_take_114 : decode cL_take 114 = .ok (.ifCond .ne 30, 3) := by decide +kernel
theorem dL_take_117 : decode cL_take 117 = .ok (.iload 22, 2) := by decide +kernel
theorem dL_take_119 : decode cL_take 119 = .ok (.bipush 8, 2) := by decide +kernel
theorem dL_take_121 : decode cL_take 121 = .ok (.if_icmp .ne 23, 3) := by decide +kernel
theorem dL_take_124 : decode cL_take 124 = .ok (.aload 7, 2) := by decide +kernel
theorem dL_take_126 : decode cL_take 126 = .ok (.aload 8, 2) := by decide +kernel
theorem dL_take_128 : decode cL_take 128 = .ok (.aload 9, 2) := by decide +kernel
theorem dL_take_130 : decode cL_take 130 = .ok (.aload 10, 2) := by decide +kernel
theorem dL_take_132 : decode cL_take 132 = .ok (.aload 11, 2) := by decide +kernel
theorem dL_take_134 : decode cL_take 134 = .ok (.aload 12, 2) := by decide +kernel
theorem dL_take_136 : decode cL_take 136 = .ok (.lload 20, 2) := by decide +kernel
theorem dL_take_138 : decode cL_take 138 = .ok (.invokestatic 169, 3) := by decide +kernel
theorem dL_take_141 : decode cL_take 141 = .ok (.goto 39, 3) := by decide +kernel
theorem dL_take_144 : decode cL_take 144 = .ok (.iload 16, 2) := by decide +kernel
theorem dL_take_146 : decode cL_take 146 = .ok (.ifCond .ne 34, 3) := by decide +kernel
theorem dL_take_149 : decode cL_take 149 = .ok (.iload 22, 2) := by decide +kernel
theorem dL_take_151 : decode cL_take 151 = .ok (.iconst 4, 1) := by decide +kernel
theorem dL_take_152 : decode cL_take 152 = .ok (.if_icmp .le 28, 3) := by decide +kernel
theorem dL_take_155 : decode cL_take 155 = .ok (.aload_n 0, 1) := by decide +kernel
theorem dL_take_156 : decode cL_take 156 = .ok (.aload_n 1, 1) := by decide +kernel
theorem dL_take_157 : decode cL_take 157 = .ok (.aload_n 2, 1) := by decide +kernel
theorem dL_take_158 : decode cL_take 158 = .ok (.aload_n 3, 1) := by decide +kernel
theorem dL_take_159 : decode cL_take 159 = .ok (.aload 4, 2) := by decide +kernel
theorem dL_take_161 : decode cL_take 161 = .ok (.aload 7, 2) := by decide +kernel
theorem dL_take_163 : decode cL_take 163 = .ok (.aload 8, 2) := by decide +kernel
theorem dL_take_165 : decode cL_take 165 = .ok (.aload 9, 2) := by decide +kernel
theorem dL_take_167 : decode cL_take 167 = .ok (.aload 10, 2) := by decide +kernel
theorem dL_take_169 : decode cL_take 169 = .ok (.aload 11, 2) := by decide +kernel
theorem dL_take_171 : decode cL_take 171 = .ok (.aload 12, 2) := by decide +kernel
theorem dL_take_173 : decode cL_take 173 = .ok (.aload 13, 2) := by decide +kernel
theorem dL_take_175 : decode cL_take 175 = .ok (.lload 20, 2) := by decide +kernel
theorem dL_take_177 : decode cL_take 177 = .ok (.invokestatic 173, 3) := by decide +kernel
theorem dL_take_180 : decode cL_take 180 = .ok (.iconst 0, 1) := by decide +kernel
theorem dL_take_181 : decode cL_take 181 = .ok (.istore 23, 2) := by decide +kernel
theorem dL_take_183 : decode cL_take 183 = .ok (.iload 23, 2) := by decide +kernel
theorem dL_take_185 : decode cL_take 185 = .ok (.aload_n 0, 1) := by decide +kernel
theorem dL_take_186 : decode cL_take 186 = .ok (.bipush 6, 2) := by decide +kernel
theorem dL_take_188 : decode cL_take 188 = .ok (.iload 14, 2) := by decide +kernel
theorem dL_take_190 : decode cL_take 190 = .ok (.iadd, 1) := by decide +kernel
theorem dL_take_191 : decode cL_take 191 = .ok (.iaload, 1) := by decide +kernel
theorem dL_take_192 : decode cL_take 192 = .ok (.if_icmp .ge 22, 3) := by decide +kernel
theorem dL_take_195 : decode cL_take 195 = .ok (.iload 23, 2) := by decide +kernel
theorem dL_take_197 : decode cL_take 197 = .ok (.bipush 64, 2) := by decide +kernel
theorem dL_take_199 : decode cL_take 199 = .ok (.if_icmp .ge 15, 3) := by decide +kernel
theorem dL_take_202 : decode cL_take 202 = .ok (.aload 17, 2) := by decide +kernel
theorem dL_take_204 : decode cL_take 204 = .ok (.iload 23, 2) := by decide +kernel
theorem dL_take_206 : decode cL_take 206 = .ok (.iconst 0, 1) := by decide +kernel
theorem dL_take_207 : decode cL_take 207 = .ok (.iastore, 1) := by decide +kernel
theorem dL_take_208 : decode cL_take 208 = .ok (.iinc 23 1, 3) := by decide +kernel
theorem dL_take_211 : decode cL_take 211 = .ok (.goto (-28), 3) := by decide +kernel
theorem dL_take_214 : decode cL_take 214 = .ok (.aload_n 0, 1) := by decide +kernel
theorem dL_take_215 : decode cL_take 215 = .ok (.bipush 6, 2) := by decide +kernel
theorem dL_take_217 : decode cL_take 217 = .ok (.iload 14, 2) := by decide +kernel
theorem dL_take_219 : decode cL_take 219 = .ok (.iadd, 1) := by decide +kernel
theorem dL_take_220 : decode cL_take 220 = .ok (.iaload, 1) := by decide +kernel
theorem dL_take_221 : decode cL_take 221 = .ok (.bipush 64, 2) := by decide +kernel
theorem dL_take_223 : decode cL_take 223 = .ok (.if_icmp .ge 20, 3) := by decide +kernel
theorem dL_take_226 : decode cL_take 226 = .ok (.aload 17, 2) := by decide +kernel
theorem dL_take_228 : decode cL_take 228 = .ok (.aload_n 0, 1) := by decide +kernel
theorem dL_take_229 : decode cL_take 229 = .ok (.bipush 6, 2) := by decide +kernel
theorem dL_take_231 : decode cL_take 231 = .ok (.iload 14, 2) := by decide +kernel
theorem dL_take_233 : decode cL_take 233 = .ok (.iadd, 1) := by decide +kernel
theorem dL_take_234 : decode cL_take 234 = .ok (.iaload, 1) := by decide +kernel
theorem dL_take_235 : decode cL_take 235 = .ok (.iaload, 1) := by decide +kernel
theorem dL_take_236 : decode cL_take 236 = .ok (.ifCond .le 7, 3) := by decide +kernel
theorem dL_take_239 : decode cL_take 239 = .ok (.iconst 1, 1) := by decide +kernel
theorem dL_take_240 : decode cL_take 240 = .ok (.goto 4, 3) := by decide +kernel
theorem dL_take_243 : decode cL_take 243 = .ok (.iconst 0, 1) := by decide +kernel
theorem dL_take_244 : decode cL_take 244 = .ok (.istore 18, 2) := by decide +kernel
theorem dL_take_246 : decode cL_take 246 = .ok (.iload 18, 2) := by decide +kernel
theorem dL_take_248 : decode cL_take 248 = .ok (.ifCond .eq 18, 3) := by decide +kernel
theorem dL_take_251 : decode cL_take 251 = .ok (.aload 17, 2) := by decide +kernel
theorem dL_take_253 : decode cL_take 253 = .ok (.aload_n 0, 1) := by decide +kernel
theorem dL_take_254 : decode cL_take 254 = .ok (.bipush 6, 2) := by decide +kernel
theorem dL_take_256 : decode cL_take 256 = .ok (.iload 14, 2) := by decide +kernel
theorem dL_take_258 : decode cL_take 258 = .ok (.iadd, 1) := by decide +kernel
theorem dL_take_259 : decode cL_take 259 = .ok (.iaload, 1) := by decide +kernel
theorem dL_take_260 : decode cL_take 260 = .ok (.iaload, 1) := by decide +kernel
theorem dL_take_261 : decode cL_take 261 = .ok (.iconst 1, 1) := by decide +kernel
theorem dL_take_262 : decode cL_take 262 = .ok (.isub, 1) := by decide +kernel
theorem dL_take_263 : decode cL_take 263 = .ok (.goto 4, 3) := by decide +kernel
theorem dL_take_266 : decode cL_take 266 = .ok (.iconst 0, 1) := by decide +kernel
theorem dL_take_267 : decode cL_take 267 = .ok (.istore 16, 2) := by decide +kernel
theorem dL_take_269 : decode cL_take 269 = .ok (.goto (-248), 3) := by decide +kernel
theorem dL_take_272 : decode cL_take 272 = .ok (.return_, 1) := by decide +kernel
theorem dL_one_0 : decode cL_one 0 = .ok (.iload 14, 2) := by decide +kernel
theorem dL_one_2 : decode cL_one 2 = .ok (.ifCond .ne 7, 3) := by decide +kernel
theorem dL_one_5 : decode cL_one 5 = .ok (.aload_n 1, 1) := by decide +kernel
theorem dL_one_6 : decode cL_one 6 = .ok (.goto 4, 3) := by decide +kernel
theorem dL_one_9 : decode cL_one 9 = .ok (.aload_n 2, 1) := by decide +kernel
theorem dL_one_10 : decode cL_one 10 = .ok (.astore 15, 2) := by decide +kernel
theorem dL_one_12 : decode cL_one 12 = .ok (.aload 15, 2) := by decide +kernel
theorem dL_one_14 : decode cL_one 14 = .ok (.iconst 0, 1) := by decide +kernel
theorem dL_one_15 : decode cL_one 15 = .ok (.invokestatic 177, 3) := by decide +kernel
theorem dL_one_18 : decode cL_one 18 = .ok (.istore 16, 2) := by decide +kernel
theorem dL_one_20 : decode cL_one 20 = .ok (.aload_n 0, 1) := by decide +kernel
theorem dL_one_21 : decode cL_one 21 = .ok (.bipush 16, 2) := by decide +kernel
theorem dL_one_23 : decode cL_one 23 = .ok (.iload 14, 2) := by decide +kernel
theorem dL_one_25 : decode cL_one 25 = .ok (.iadd, 1) := by decide +kernel
theorem dL_one_26 : decode cL_one 26 = .ok (.dup2, 1) := by decide +kernel
theorem dL_one_27 : decode cL_one 27 = .ok (.iaload, 1) := by decide +kernel
theorem dL_one_28 : decode cL_one 28 = .ok (.iconst 1, 1) := by decide +kernel
theorem dL_one_29 : decode cL_one 29 = .ok (.isub, 1) := by decide +kernel
theorem dL_one_30 : decode cL_one 30 = .ok (.iastore, 1) := by decide +kernel
theorem dL_one_31 : decode cL_one 31 = .ok (.iconst 0, 1) := by decide +kernel
theorem dL_one_32 : decode cL_one 32 = .ok (.istore 17, 2) := by decide +kernel
theorem dL_one_34 : decode cL_one 34 = .ok (.iload 17, 2) := by decide +kernel
theorem dL_one_36 : decode cL_one 36 = .ok (.aload_n 0, 1) := by decide +kernel
theorem dL_one_37 : decode cL_one 37 = .ok (.bipush 16, 2) := by decide +kernel
theorem dL_one_39 : decode cL_one 39 = .ok (.iload 14, 2) := by decide +kernel
theorem dL_one_41 : decode cL_one 41 = .ok (.iadd, 1) := by decide +kernel
theorem dL_one_42 : decode cL_one 42 = .ok (.iaload, 1) := by decide +kernel
theorem dL_one_43 : decode cL_one 43 = .ok (.if_icmp .ge 25, 3) := by decide +kernel
theorem dL_one_46 : decode cL_one 46 = .ok (.aload 15, 2) := by decide +kernel
theorem dL_one_48 : decode cL_one 48 = .ok (.iload 17, 2) := by decide +kernel
theorem dL_one_50 : decode cL_one 50 = .ok (.aload 15, 2) := by decide +kernel
theorem dL_one_52 : decode cL_one 52 = .ok (.iload 17, 2) := by decide +kernel
theorem dL_one_54 : decode cL_one 54 = .ok (.iconst 1, 1) := by decide +kernel
theorem dL_one_55 : decode cL_one 55 = .ok (.iadd, 1) := by decide +kernel
theorem dL_one_56 : decode cL_one 56 = .ok (.invokestatic 177, 3) := by decide +kernel
theorem dL_one_59 : decode cL_one 59 = .ok (.invokestatic 117, 3) := by decide +kernel
theorem dL_one_62 : decode cL_one 62 = .ok (.iinc 17 1, 3) := by decide +kernel
theorem dL_one_65 : decode cL_one 65 = .ok (.goto (-31), 3) := by decide +kernel
theorem dL_one_68 : decode cL_one 68 = .ok (.iload 16, 2) := by decide +kernel
theorem dL_one_70 : decode cL_one 70 = .ok (.bipush 63, 2) := by decide +kernel
theorem dL_one_72 : decode cL_one 72 = .ok (.iand, 1) := by decide +kernel
theorem dL_one_73 : decode cL_one 73 = .ok (.istore 17, 2) := by decide +kernel
theorem dL_one_75 : decode cL_one 75 = .ok (.iload 16, 2) := by decide +kernel
theorem dL_one_77 : decode cL_one 77 = .ok (.bipush 6, 2) := by decide +kernel
theorem dL_one_79 : decode cL_one 79 = .ok (.ishr, 1) := by decide +kernel
theorem dL_one_80 : decode cL_one 80 = .ok (.bipush 127, 2) := by decide +kernel
theorem dL_one_82 : decode cL_one 82 = .ok (.iand, 1) := by decide +kernel
theorem dL_one_83 : decode cL_one 83 = .ok (.istore 18, 2) := by decide +kernel
theorem dL_one_85 : decode cL_one 85 = .ok (.iload 14, 2) := by decide +kernel
theorem dL_one_87 : decode cL_one 87 = .ok (.ifCond .ne 8, 3) := by decide +kernel
theorem dL_one_90 : decode cL_one 90 = .ok (.aload 4, 2) := by decide +kernel
theorem dL_one_92 : decode cL_one 92 = .ok (.goto 4, 3) := by decide +kernel
theorem dL_one_95 : decode cL_one 95 = .ok (.aload_n 3, 1) := by decide +kernel
theorem dL_one_96 : decode cL_one 96 = .ok (.iload 17, 2) := by decide +kernel
theorem dL_one_98 : decode cL_one 98 = .ok (.laload, 1) := by decide +kernel
theorem dL_one_99 : decode cL_one 99 = .ok (.lstore 19, 2) := by decide +kernel
theorem dL_one_101 : decode cL_one 101 = .ok (.iload 18, 2) := by decide +kernel
theorem dL_one_103 : decode cL_one 103 = .ok (.ifCond .le 7, 3) := by decide +kernel
theorem dL_one_106 : decode cL_one 106 = .ok (.iconst 4, 1) := by decide +kernel
theorem dL_one_107 : decode cL_one 107 = .ok (.goto 10, 3) := by decide +kernel
theorem dL_one_110 : decode cL_one 110 = .ok (.lload 19, 2) := by decide +kernel
theorem dL_one_112 : decode cL_one 112 = .ok (.ldc2_w 133, 3) := by decide +kernel
theorem dL_one_115 : decode cL_one 115 = .ok (.land, 1) := by decide +kernel
theorem dL_one_116 : decode cL_one 116 = .ok (.l2i, 1) := by decide +kernel
theorem dL_one_117 : decode cL_one 117 = .ok (.istore 21, 2) := by decide +kernel
theorem dL_one_119 : decode cL_one 119 = .ok (.iload 16, 2) := by decide +kernel
theorem dL_one_121 : decode cL_one 121 = .ok (.bipush 13, 2) := by decide +kernel
theorem dL_one_123 : decode cL_one 123 = .ok (.ishr, 1) := by decide +kernel
theorem dL_one_124 : decode cL_one 124 = .ok (.iconst 1, 1) := by decide +kernel
theorem dL_one_125 : decode cL_one 125 = .ok (.if_icmp .eq 17, 3) := by decide +kernel
theorem dL_one_128 : decode cL_one 128 = .ok (.aload_n 0, 1) := by decide +kernel
theorem dL_one_129 : decode cL_one 129 = .ok (.iconst 2, 1) := by decide +kernel
theorem dL_one_130 : decode cL_one 130 = .ok (.iload 14, 2) := by decide +kernel
theorem dL_one_132 : decode cL_one 132 = .ok (.iadd, 1) := by decide +kernel
theorem dL_one_133 : decode cL_one 133 = .ok (.iaload, 1) := by decide +kernel
theorem dL_one_134 : decode cL_one 134 = .ok (.ifCond .ne 9, 3) := by decide +kernel
theorem dL_one_137 : decode cL_one 137 = .ok (.iload 21, 2) := by decide +kernel
theorem dL_one_139 : decode cL_one 139 = .ok (.ifCond .eq 4, 3) := by decide +kernel
theorem dL_one_142 : decode cL_one 142 = .ok (.return_, 1) := by decide +kernel
theorem dL_one_143 : decode cL_one 143 = .ok (.aload_n 0, 1) := by decide +kernel
theorem dL_one_144 : decode cL_one 144 = .ok (.bipush 14, 2) := by decide +kernel
theorem dL_one_146 : decode cL_one 146 = .ok (.iload 14, 2) := by decide +kernel
theorem dL_one_148 : decode cL_one 148 = .ok (.iadd, 1) := by decide +kernel
theorem dL_one_149 : decode cL_one 149 = .ok (.aload_n 0, 1) := by decide +kernel
theorem dL_one_150 : decode cL_one 150 = .ok (.iconst 0, 1) := by decide +kernel
theorem dL_one_151 : decode cL_one 151 = .ok (.iaload, 1) := by decide +kernel
theorem dL_one_152 : decode cL_one 152 = .ok (.iastore, 1) := by decide +kernel
theorem dL_one_153 : decode cL_one 153 = .ok (.iload 21, 2) := by decide +kernel
theorem dL_one_155 : decode cL_one 155 = .ok (.ifCond .ne 10, 3) := by decide +kernel
theorem dL_one_158 : decode cL_one 158 = .ok (.aload_n 0, 1) := by decide +kernel
theorem dL_one_159 : decode cL_one 159 = .ok (.iconst 2, 1) := by decide +kernel
theorem dL_one_160 : decode cL_one 160 = .ok (.iload 14, 2) := by decide +kernel
theorem dL_one_162 : decode cL_one 162 = .ok (.iadd, 1) := by decide +kernel
theorem dL_one_163 : decode cL_one 163 = .ok (.iconst 1, 1) := by decide +kernel
theorem dL_one_164 : decode cL_one 164 = .ok (.iastore, 1) := by decide +kernel
theorem dL_one_165 : decode cL_one 165 = .ok (.iload 21, 2) := by decide +kernel
theorem dL_one_167 : decode cL_one 167 = .ok (.iconst 3, 1) := by decide +kernel
theorem dL_one_168 : decode cL_one 168 = .ok (.if_icmp .ne 22, 3) := by decide +kernel
theorem dL_one_171 : decode cL_one 171 = .ok (.aload_n 0, 1) := by decide +kernel
theorem dL_one_172 : decode cL_one 172 = .ok (.aload_n 1, 1) := by decide +kernel
theorem dL_one_173 : decode cL_one 173 = .ok (.aload_n 2, 1) := by decide +kernel
theorem dL_one_174 : decode cL_one 174 = .ok (.aload_n 3, 1) := by decide +kernel
theorem dL_one_175 : decode cL_one 175 = .ok (.aload 4, 2) := by decide +kernel
theorem dL_one_177 : decode cL_one 177 = .ok (.aload 11, 2) := by decide +kernel
theorem dL_one_179 : decode cL_one 179 = .ok (.iload 14, 2) := by decide +kernel
theorem dL_one_181 : decode cL_one 181 = .ok (.lload 19, 2) := by decide +kernel
theorem dL_one_183 : decode cL_one 183 = .ok (.iconst 5, 1) := by decide +kernel
theorem dL_one_184 : decode cL_one 184 = .ok (.invokestatic 135, 3) := by decide +kernel
theorem dL_one_187 : decode cL_one 187 = .ok (.invokestatic 181, 3) := by decide +kernel
theorem dL_one_190 : decode cL_one 190 = .ok (.iload 17, 2) := by decide +kernel
theorem dL_one_192 : decode cL_one 192 = .ok (.aload_n 0, 1) := by decide +kernel
theorem dL_one_193 : decode cL_one 193 = .ok (.bipush 6, 2) := by decide +kernel
theorem dL_one_195 : decode cL_one 195 = .ok (.iload 14, 2) := by decide +kernel
theorem dL_one_197 : decode cL_one 197 = .ok (.iadd, 1) := by decide +kernel
theorem dL_one_198 : decode cL_one 198 = .ok (.iaload, 1) := by decide +kernel
theorem dL_one_199 : decode cL_one 199 = .ok (.if_icmp .ne 34, 3) := by decide +kernel
theorem dL_one_202 : decode cL_one 202 = .ok (.aload_n 0, 1) := by decide +kernel
theorem dL_one_203 : decode cL_one 203 = .ok (.aload_n 1, 1) := by decide +kernel
theorem dL_one_204 : decode cL_one 204 = .ok (.aload_n 2, 1) := by decide +kernel
theorem dL_one_205 : decode cL_one 205 = .ok (.aload_n 3, 1) := by decide +kernel
theorem dL_one_206 : decode cL_one 206 = .ok (.aload 4, 2) := by decide +kernel
theorem dL_one_208 : decode cL_one 208 = .ok (.aload 5, 2) := by decide +kernel
theorem dL_one_210 : decode cL_one 210 = .ok (.aload 6, 2) := by decide +kernel
theorem dL_one_212 : decode cL_one 212 = .ok (.aload 7, 2) := by decide +kernel
theorem dL_one_214 : decode cL_one 214 = .ok (.aload 8, 2) := by decide +kernel
theorem dL_one_216 : decode cL_one 216 = .ok (.aload 9, 2) := by decide +kernel
theorem dL_one_218 : decode cL_one 218 = .ok (.aload 10, 2) := by decide +kernel
theorem dL_one_220 : decode cL_one 220 = .ok (.aload 11, 2) := by decide +kernel
theorem dL_one_222 : decode cL_one 222 = .ok (.aload 12, 2) := by decide +kernel
theorem dL_one_224 : decode cL_one 224 = .ok (.aload 13, 2) := by decide +kernel
theorem dL_one_226 : decode cL_one 226 = .ok (.iload 14, 2) := by decide +kernel
theorem dL_one_228 : decode cL_one 228 = .ok (.iload 18, 2) := by decide +kernel
theorem dL_one_230 : decode cL_one 230 = .ok (.invokestatic 185, 3) := by decide +kernel
theorem dL_one_233 : decode cL_one 233 = .ok (.iload 17, 2) := by decide +kernel
theorem dL_one_235 : decode cL_one 235 = .ok (.aload_n 0, 1) := by decide +kernel
theorem dL_one_236 : decode cL_one 236 = .ok (.bipush 6, 2) := by decide +kernel
theorem dL_one_238 : decode cL_one 238 = .ok (.iload 14, 2) := by decide +kernel
theorem dL_one_240 : decode cL_one 240 = .ok (.iadd, 1) := by decide +kernel
theorem dL_one_241 : decode cL_one 241 = .ok (.iaload, 1) := by decide +kernel
theorem dL_one_242 : decode cL_one 242 = .ok (.if_icmp .gt 4, 3) := by decide +kernel
theorem dL_one_245 : decode cL_one 245 = .ok (.return_, 1) := by decide +kernel
theorem dL_one_246 : decode cL_one 246 = .ok (.iload 14, 2) := by decide +kernel
theorem dL_one_248 : decode cL_one 248 = .ok (.ifCond .ne 8, 3) := by decide +kernel
theorem dL_one_251 : decode cL_one 251 = .ok (.aload 5, 2) := by decide +kernel
theorem dL_one_253 : decode cL_one 253 = .ok (.goto 5, 3) := by decide +kernel
theorem dL_one_256 : decode cL_one 256 = .ok (.aload 6, 2) := by decide +kernel
theorem dL_one_258 : decode cL_one 258 = .ok (.iload 17, 2) := by decide +kernel
theorem dL_one_260 : decode cL_one 260 = .ok (.iload 18, 2) := by decide +kernel
theorem dL_one_262 : decode cL_one 262 = .ok (.ifCond .le 10, 3) := by decide +kernel
theorem dL_one_265 : decode cL_one 265 = .ok (.iconst 1, 1) := by decide +kernel
theorem dL_one_266 : decode cL_one 266 = .ok (.iload 18, 2) := by decide +kernel
theorem dL_one_268 : decode cL_one 268 = .ok (.iadd, 1) := by decide +kernel
theorem dL_one_269 : decode cL_one 269 = .ok (.goto 4, 3) := by decide +kernel
theorem dL_one_272 : decode cL_one 272 = .ok (.iconst 1, 1) := by decide +kernel
theorem dL_one_273 : decode cL_one 273 = .ok (.iastore, 1) := by decide +kernel
theorem dL_one_274 : decode cL_one 274 = .ok (.aload_n 0, 1) := by decide +kernel
theorem dL_one_275 : decode cL_one 275 = .ok (.bipush 8, 2) := by decide +kernel
theorem dL_one_277 : decode cL_one 277 = .ok (.iload 14, 2) := by decide +kernel
theorem dL_one_279 : decode cL_one 279 = .ok (.iadd, 1) := by decide +kernel
theorem dL_one_280 : decode cL_one 280 = .ok (.iaload, 1) := by decide +kernel
theorem dL_one_281 : decode cL_one 281 = .ok (.aload_n 0, 1) := by decide +kernel
theorem dL_one_282 : decode cL_one 282 = .ok (.bipush 6, 2) := by decide +kernel
theorem dL_one_284 : decode cL_one 284 = .ok (.iload 14, 2) := by decide +kernel
theorem dL_one_286 : decode cL_one 286 = .ok (.iadd, 1) := by decide +kernel
theorem dL_one_287 : decode cL_one 287 = .ok (.iaload, 1) := by decide +kernel
theorem dL_one_288 : decode cL_one 288 = .ok (.if_icmp .ne 19, 3) := by decide +kernel
theorem dL_one_291 : decode cL_one 291 = .ok (.aload_n 0, 1) := by decide +kernel
theorem dL_one_292 : decode cL_one 292 = .ok (.iconst 0, 1) := by decide +kernel
theorem dL_one_293 : decode cL_one 293 = .ok (.iaload, 1) := by decide +kernel
theorem dL_one_294 : decode cL_one 294 = .ok (.aload_n 0, 1) := by decide +kernel
theorem dL_one_295 : decode cL_one 295 = .ok (.bipush 10, 2) := by decide +kernel
theorem dL_one_297 : decode cL_one 297 = .ok (.iload 14, 2) := by decide +kernel
theorem dL_one_299 : decode cL_one 299 = .ok (.iadd, 1) := by decide +kernel
theorem dL_one_300 : decode cL_one 300 = .ok (.iaload, 1) := by decide +kernel
theorem dL_one_301 : decode cL_one 301 = .ok (.isub, 1) := by decide +kernel
theorem dL_one_302 : decode cL_one 302 = .ok (.iconst 5, 1) := by decide +kernel
theorem dL_one_303 : decode cL_one 303 = .ok (.if_icmp .ge 4, 3) := by decide +kernel
theorem dL_one_306 : decode cL_one 306 = .ok (.return_, 1) := by decide +kernel
theorem dL_one_307 : decode cL_one 307 = .ok (.aload_n 0, 1) := by decide +kernel
theorem dL_one_308 : decode cL_one 308 = .ok (.bipush 8, 2) := by decide +kernel
theorem dL_one_310 : decode cL_one 310 = .ok (.iload 14, 2) := by decide +kernel
theorem dL_one_312 : decode cL_one 312 = .ok (.iadd, 1) := by decide +kernel
theorem dL_one_313 : decode cL_one 313 = .ok (.aload_n 0, 1) := by decide +kernel
theorem dL_one_314 : decode cL_one 314 = .ok (.bipush 6, 2) := by decide +kernel
theorem dL_one_316 : decode cL_one 316 = .ok (.iload 14, 2) := by decide +kernel
theorem dL_one_318 : decode cL_one 318 = .ok (.iadd, 1) := by decide +kernel
theorem dL_one_319 : decode cL_one 319 = .ok (.iaload, 1) := by decide +kernel
theorem dL_one_320 : decode cL_one 320 = .ok (.iastore, 1) := by decide +kernel
theorem dL_one_321 : decode cL_one 321 = .ok (.aload_n 0, 1) := by decide +kernel
theorem dL_one_322 : decode cL_one 322 = .ok (.bipush 10, 2) := by decide +kernel
theorem dL_one_324 : decode cL_one 324 = .ok (.iload 14, 2) := by decide +kernel
theorem dL_one_326 : decode cL_one 326 = .ok (.iadd, 1) := by decide +kernel
theorem dL_one_327 : decode cL_one 327 = .ok (.aload_n 0, 1) := by decide +kernel
theorem dL_one_328 : decode cL_one 328 = .ok (.iconst 0, 1) := by decide +kernel
theorem dL_one_329 : decode cL_one 329 = .ok (.iaload, 1) := by decide +kernel
theorem dL_one_330 : decode cL_one 330 = .ok (.iastore, 1) := by decide +kernel
theorem dL_one_331 : decode cL_one 331 = .ok (.aload_n 0, 1) := by decide +kernel
theorem dL_one_332 : decode cL_one 332 = .ok (.aload_n 1, 1) := by decide +kernel
theorem dL_one_333 : decode cL_one 333 = .ok (.aload_n 2, 1) := by decide +kernel
theorem dL_one_334 : decode cL_one 334 = .ok (.aload_n 3, 1) := by decide +kernel
theorem dL_one_335 : decode cL_one 335 = .ok (.aload 4, 2) := by decide +kernel
theorem dL_one_337 : decode cL_one 337 = .ok (.iload 14, 2) := by decide +kernel
theorem dL_one_339 : decode cL_one 339 = .ok (.iconst 3, 1) := by decide +kernel
theorem dL_one_340 : decode cL_one 340 = .ok (.aload_n 0, 1) := by decide +kernel
theorem dL_one_341 : decode cL_one 341 = .ok (.bipush 6, 2) := by decide +kernel
theorem dL_one_343 : decode cL_one 343 = .ok (.iload 14, 2) := by decide +kernel
theorem dL_one_345 : decode cL_one 345 = .ok (.iadd, 1) := by decide +kernel
theorem dL_one_346 : decode cL_one 346 = .ok (.iaload, 1) := by decide +kernel
theorem dL_one_347 : decode cL_one 347 = .ok (.iconst 0, 1) := by decide +kernel
theorem dL_one_348 : decode cL_one 348 = .ok (.iconst 0, 1) := by decide +kernel
theorem dL_one_349 : decode cL_one 349 = .ok (.iconst 0, 1) := by decide +kernel
theorem dL_one_350 : decode cL_one 350 = .ok (.invokestatic 129, 3) := by decide +kernel
theorem dL_one_353 : decode cL_one 353 = .ok (.return_, 1) := by decide +kernel
