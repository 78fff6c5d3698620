theorem dL_connect_0 : decode cL_connect 0 = .ok (.aload_n 0, 1) := by decide +kernel
theorem dL_connect_1 : decode cL_connect 1 = .ok (.iload_n 1, 1) := by decide +kernel
theorem dL_connect_2 : decode cL_connect 2 = .ok (.invokevirtual 7, 3) := by decide +kernel
theorem dL_connect_5 : decode cL_connect 5 = .ok (.goto 6, 3) := by decide +kernel
theorem dL_connect_8 : decode cL_connect 8 = .ok (.astore_n 2, 1) := by decide +kernel
theorem dL_connect_9 : decode cL_connect 9 = .ok (.iconst 1, 1) := by decide +kernel
theorem dL_connect_10 : decode cL_connect 10 = .ok (.ireturn, 1) := by decide +kernel
theorem dL_connect_11 : decode cL_connect 11 = .ok (.iconst 0, 1) := by decide +kernel
theorem dL_connect_12 : decode cL_connect 12 = .ok (.ireturn, 1) := by decide +kernel
theorem dL_cut_0 : decode cL_cut 0 = .ok (.aload_n 1, 1) := by decide +kernel
theorem dL_cut_1 : decode cL_cut 1 = .ok (.iconst 0, 1) := by decide +kernel
theorem dL_cut_2 : decode cL_cut 2 = .ok (.aload_n 0, 1) := by decide +kernel
theorem dL_cut_3 : decode cL_cut 3 = .ok (.invokevirtual 15, 3) := by decide +kernel
theorem dL_cut_6 : decode cL_cut 6 = .ok (.i2l, 1) := by decide +kernel
theorem dL_cut_7 : decode cL_cut 7 = .ok (.lastore, 1) := by decide +kernel
theorem dL_cut_8 : decode cL_cut 8 = .ok (.goto 6, 3) := by decide +kernel
theorem dL_cut_11 : decode cL_cut 11 = .ok (.astore_n 2, 1) := by decide +kernel
theorem dL_cut_12 : decode cL_cut 12 = .ok (.iconst 1, 1) := by decide +kernel
theorem dL_cut_13 : decode cL_cut 13 = .ok (.ireturn, 1) := by decide +kernel
theorem dL_cut_14 : decode cL_cut 14 = .ok (.iconst 0, 1) := by decide +kernel
theorem dL_cut_15 : decode cL_cut 15 = .ok (.ireturn, 1) := by decide +kernel
theorem dL_come_0 : decode cL_come 0 = .ok (.aload_n 3, 1) := by decide +kernel
theorem dL_come_1 : decode cL_come 1 = .ok (.iconst 0, 1) := by decide +kernel
theorem dL_come_2 : decode cL_come 2 = .ok (.aload_n 0, 1) := by decide +kernel
theorem dL_come_3 : decode cL_come 3 = .ok (.iload_n 1, 1) := by decide +kernel
theorem dL_come_4 : decode cL_come 4 = .ok (.iload_n 2, 1) := by decide +kernel
theorem dL_come_5 : decode cL_come 5 = .ok (.invokevirtual 19, 3) := by decide +kernel
theorem dL_come_8 : decode cL_come 8 = .ok (.i2l, 1) := by decide +kernel
theorem dL_come_9 : decode cL_come 9 = .ok (.lastore, 1) := by decide +kernel
theorem dL_come_10 : decode cL_come 10 = .ok (.goto 11, 3) := by decide +kernel
theorem dL_come_13 : decode cL_come 13 = .ok (.astore 4, 2) := by decide +kernel
theorem dL_come_15 : decode cL_come 15 = .ok (.iconst 1, 1) := by decide +kernel
theorem dL_come_16 : decode cL_come 16 = .ok (.ireturn, 1) := by decide +kernel
theorem dL_come_17 : decode cL_come 17 = .ok (.astore 4, 2) := by decide +kernel
theorem dL_come_19 : decode cL_come 19 = .ok (.iconst 2, 1) := by decide +kernel
theorem dL_come_20 : decode cL_come 20 = .ok (.ireturn, 1) := by decide +kernel
theorem dL_come_21 : decode cL_come 21 = .ok (.iconst 0, 1) := by decide +kernel
theorem dL_come_22 : decode cL_come 22 = .ok (.ireturn, 1) := by decide +kernel
theorem dL_garble_0 : decode cL_garble 0 = .ok (.aload_n 3, 1) := by decide +kernel
theorem dL_garble_1 : decode cL_garble 1 = .ok (.iconst 0, 1) := by decide +kernel
theorem dL_garble_2 : decode cL_garble 2 = .ok (.aload_n 0, 1) := by decide +kernel
theorem dL_garble_3 : decode cL_garble 3 = .ok (.iload_n 1, 1) := by decide +kernel
theorem dL_garble_4 : decode cL_garble 4 = .ok (.iload_n 2, 1) := by decide +kernel
theorem dL_garble_5 : decode cL_garble 5 = .ok (.invokevirtual 27, 3) := by decide +kernel
theorem dL_garble_8 : decode cL_garble 8 = .ok (.i2l, 1) := by decide +kernel
theorem dL_garble_9 : decode cL_garble 9 = .ok (.lastore, 1) := by decide +kernel
theorem dL_garble_10 : decode cL_garble 10 = .ok (.goto 7, 3) := by decide +kernel
theorem dL_garble_13 : decode cL_garble 13 = .ok (.astore 4, 2) := by decide +kernel
theorem dL_garble_15 : decode cL_garble 15 = .ok (.iconst 1, 1) := by decide +kernel
theorem dL_garble_16 : decode cL_garble 16 = .ok (.ireturn, 1) := by decide +kernel
theorem dL_garble_17 : decode cL_garble 17 = .ok (.iconst 0, 1) := by decide +kernel
theorem dL_garble_18 : decode cL_garble 18 = .ok (.ireturn, 1) := by decide +kernel
theorem dL_pass_0 : decode cL_pass 0 = .ok (.aload_n 2, 1) := by decide +kernel
theorem dL_pass_1 : decode cL_pass 1 = .ok (.iconst 0, 1) := by decide +kernel
theorem dL_pass_2 : decode cL_pass 2 = .ok (.aload_n 0, 1) := by decide +kernel
theorem dL_pass_3 : decode cL_pass 3 = .ok (.iload_n 1, 1) := by decide +kernel
theorem dL_pass_4 : decode cL_pass 4 = .ok (.invokevirtual 30, 3) := by decide +kernel
theorem dL_pass_7 : decode cL_pass 7 = .ok (.i2l, 1) := by decide +kernel
theorem dL_pass_8 : decode cL_pass 8 = .ok (.lastore, 1) := by decide +kernel
theorem dL_pass_9 : decode cL_pass 9 = .ok (.goto 6, 3) := by decide +kernel
theorem dL_pass_12 : decode cL_pass 12 = .ok (.astore_n 3, 1) := by decide +kernel
theorem dL_pass_13 : decode cL_pass 13 = .ok (.iconst 1, 1) := by decide +kernel
theorem dL_pass_14 : decode cL_pass 14 = .ok (.ireturn, 1) := by decide +kernel
theorem dL_pass_15 : decode cL_pass 15 = .ok (.iconst 0, 1) := by decide +kernel
theorem dL_pass_16 : decode cL_pass 16 = .ok (.ireturn, 1) := by decide +kernel
theorem dL_isOn_0 : decode cL_isOn 0 = .ok (.aload_n 2, 1) := by decide +kernel
theorem dL_isOn_1 : decode cL_isOn 1 = .ok (.iconst 0, 1) := by decide +kernel
theorem dL_isOn_2 : decode cL_isOn 2 = .ok (.aload_n 0, 1) := by decide +kernel
theorem dL_isOn_3 : decode cL_isOn 3 = .ok (.iload_n 1, 1) := by decide +kernel
theorem dL_isOn_4 : decode cL_isOn 4 = .ok (.invokevirtual 34, 3) := by decide +kernel
theorem dL_isOn_7 : decode cL_isOn 7 = .ok (.ifCond .eq 7, 3) := by decide +kernel
theorem dL_isOn_10 : decode cL_isOn 10 = .ok (.lconst 1, 1) := by decide +kernel
theorem dL_isOn_11 : decode cL_isOn 11 = .ok (.goto 4, 3) := by decide +kernel
theorem dL_isOn_14 : decode cL_isOn 14 = .ok (.lconst 0, 1) := by decide +kernel
theorem dL_isOn_15 : decode cL_isOn 15 = .ok (.lastore, 1) := by decide +kernel
theorem dL_isOn_16 : decode cL_isOn 16 = .ok (.goto 6, 3) := by decide +kernel
theorem dL_isOn_19 : decode cL_isOn 19 = .ok (.astore_n 3, 1) := by decide +kernel
theorem dL_isOn_20 : decode cL_isOn 20 = .ok (.iconst 1, 1) := by decide +kernel
theorem dL_isOn_21 : decode cL_isOn 21 = .ok (.ireturn, 1) := by decide +kernel
theorem dL_isOn_22 : decode cL_isOn 22 = .ok (.iconst 0, 1) := by decide +kernel
theorem dL_isOn_23 : decode cL_isOn 23 = .ok (.ireturn, 1) := by decide +kernel
theorem dL_onWay_0 : decode cL_onWay 0 = .ok (.aload_n 2, 1) := by decide +kernel
theorem dL_onWay_1 : decode cL_onWay 1 = .ok (.iconst 0, 1) := by decide +kernel
theorem dL_onWay_2 : decode cL_onWay 2 = .ok (.aload_n 0, 1) := by decide +kernel
theorem dL_onWay_3 : decode cL_onWay 3 = .ok (.iload_n 1, 1) := by decide +kernel
theorem dL_onWay_4 : decode cL_onWay 4 = .ok (.invokevirtual 38, 3) := by decide +kernel
theorem dL_onWay_7 : decode cL_onWay 7 = .ok (.i2l, 1) := by decide +kernel
theorem dL_onWay_8 : decode cL_onWay 8 = .ok (.lastore, 1) := by decide +kernel
theorem dL_onWay_9 : decode cL_onWay 9 = .ok (.goto 6, 3) := by decide +kernel
theorem dL_onWay_12 : decode cL_onWay 12 = .ok (.astore_n 3, 1) := by decide +kernel
theorem dL_onWay_13 : decode cL_onWay 13 = .ok (.iconst 1, 1) := by decide +kernel
theorem dL_onWay_14 : decode cL_onWay 14 = .ok (.ireturn, 1) := by decide +kernel
theorem dL_onWay_15 : decode cL_onWay 15 = .ok (.iconst 0, 1) := by decide +kernel
theorem dL_onWay_16 : decode cL_onWay 16 = .ok (.ireturn, 1) := by decide +kernel
theorem dL_sent_0 : decode cL_sent 0 = .ok (.aload_n 2, 1) := by decide +kernel
theorem dL_sent_1 : decode cL_sent 1 = .ok (.iconst 0, 1) := by decide +kernel
theorem dL_sent_2 : decode cL_sent 2 = .ok (.aload_n 0, 1) := by decide +kernel
theorem dL_sent_3 : decode cL_sent 3 = .ok (.iload_n 1, 1) := by decide +kernel
theorem dL_sent_4 : decode cL_sent 4 = .ok (.invokevirtual 41, 3) := by decide +kernel
theorem dL_sent_7 : decode cL_sent 7 = .ok (.i2l, 1) := by decide +kernel
theorem dL_sent_8 : decode cL_sent 8 = .ok (.lastore, 1) := by decide +kernel
theorem dL_sent_9 : decode cL_sent 9 = .ok (.goto 6, 3) := by decide +kernel
theorem dL_sent_12 : decode cL_sent 12 = .ok (.astore_n 3, 1) := by decide +kernel
theorem dL_sent_13 : decode cL_sent 13 = .ok (.iconst 1, 1) := by decide +kernel
theorem dL_sent_14 : decode cL_sent 14 = .ok (.ireturn, 1) := by decide +kernel
theorem dL_sent_15 : decode cL_sent 15 = .ok (.iconst 0, 1) := by decide +kernel
theorem dL_sent_16 : decode cL_sent 16 = .ok (.ireturn, 1) := by decide +kernel
theorem dL_expected_0 : decode cL_expected 0 = .ok (.aload_n 2, 1) := by decide +kernel
theorem dL_expected_1 : decode cL_expected 1 = .ok (.iconst 0, 1) := by decide +kernel
theorem dL_expected_2 : decode cL_expected 2 = .ok (.aload_n 0, 1) := by decide +kernel
theorem dL_expected_3 : decode cL_expected 3 = .ok (.iload_n 1, 1) := by decide +kernel
theorem dL_expected_4 : decode cL_expected 4 = .ok (.invokevirtual 44, 3) := by decide +kernel
theorem dL_expected_7 : decode cL_expected 7 = .ok (.i2l, 1) := by decide +kernel
theorem dL_expected_8 : decode cL_expected 8 = .ok (.lastore, 1) := by decide +kernel
theorem dL_expected_9 : decode cL_expected 9 = .ok (.goto 6, 3) := by decide +kernel
theorem dL_expected_12 : decode cL_expected 12 = .ok (.astore_n 3, 1) := by decide +kernel
theorem dL_expected_13 : decode cL_expected 13 = .ok (.iconst 1, 1) := by decide +kernel
theorem dL_expected_14 : decode cL_expected 14 = .ok (.ireturn, 1) := by decide +kernel
theorem dL_expected_15 : decode cL_expected 15 = .ok (.iconst 0, 1) := by decide +kernel
theorem dL_expected_16 : decode cL_expected 16 = .ok (.ireturn, 1) := by decide +kernel
theorem dL_held_0 : decode cL_held 0 = .ok (.aload_n 2, 1) := by decide +kernel
theorem dL_held_1 : decode cL_held 1 = .ok (.iconst 0, 1) := by decide +kernel
theorem dL_held_2 : decode cL_held 2 = .ok (.aload_n 0, 1) := by decide +kernel
theorem dL_held_3 : decode cL_held 3 = .ok (.iload_n 1, 1) := by decide +kernel
theorem dL_held_4 : decode cL_held 4 = .ok (.invokevirtual 47, 3) := by decide +kernel
theorem dL_held_7 : decode cL_held 7 = .ok (.i2l, 1) := by decide +kernel
theorem dL_held_8 : decode cL_held 8 = .ok (.lastore, 1) := by decide +kernel
theorem dL_held_9 : decode cL_held 9 = .ok (.goto 6, 3) := by decide +kernel
theorem dL_held_12 : decode cL_held 12 = .ok (.astore_n 3, 1) := by decide +kernel
theorem dL_held_13 : decode cL_held 13 = .ok (.iconst 1, 1) := by decide +kernel
theorem dL_held_14 : decode cL_held 14 = .ok (.ireturn, 1) := by decide +kernel
theorem dL_held_15 : decode cL_held 15 = .ok (.iconst 0, 1) := by decide +kernel
theorem dL_held_16 : decode cL_held 16 = .ok (.ireturn, 1) := by decide +kernel
theorem dL_fields_0 : decode cL_fields 0 = .ok (.aload_n 3, 1) := by decide +kernel
theorem dL_fields_1 : decode cL_fields 1 = .ok (.iconst 0, 1) := by decide +kernel
theorem dL_fields_2 : decode cL_fields 2 = .ok (.aload_n 0, 1) := by decide +kernel
theorem dL_fields_3 : decode cL_fields 3 = .ok (.iload_n 1, 1) := by decide +kernel
theorem dL_fields_4 : decode cL_fields 4 = .ok (.iload_n 2, 1) := by decide +kernel
theorem dL_fields_5 : decode cL_fields 5 = .ok (.invokevirtual 50, 3) := by decide +kernel
theorem dL_fields_8 : decode cL_fields 8 = .ok (.i2l, 1) := by decide +kernel
theorem dL_fields_9 : decode cL_fields 9 = .ok (.lastore, 1) := by decide +kernel
theorem dL_fields_10 : decode cL_fields 10 = .ok (.goto 7, 3) := by decide +kernel
theorem dL_fields_13 : decode cL_fields 13 = .ok (.astore 4, 2) := by decide +kernel
theorem dL_fields_15 : decode cL_fields 15 = .ok (.iconst 1, 1) := by decide +kernel
theorem dL_fields_16 : decode cL_fields 16 = .ok (.ireturn, 1) := by decide +kernel
theorem dL_fields_17 : decode cL_fields 17 = .ok (.iconst 0, 1) := by decide +kernel
theorem dL_fields_18 : decode cL_fields 18 = .ok (.ireturn, 1) := by decide +kernel
theorem dL_tagAt_0 : decode cL_tagAt 0 = .ok (.aload 4, 2) := by decide +kernel
theorem dL_tagAt_2 : decode cL_tagAt 2 = .ok (.iconst 0, 1) := by decide +kernel
theorem dL_tagAt_3 : decode cL_tagAt 3 = .ok (.aload_n 0, 1) := by decide +kernel
theorem dL_tagAt_4 : decode cL_tagAt 4 = .ok (.iload_n 1, 1) := by decide +kernel
theorem dL_tagAt_5 : decode cL_tagAt 5 = .ok (.iload_n 2, 1) := by decide +kernel
theorem dL_tagAt_6 : decode cL_tagAt 6 = .ok (.iload_n 3, 1) := by decide +kernel
theorem dL_tagAt_7 : decode cL_tagAt 7 = .ok (.invokevirtual 53, 3) := by decide +kernel
theorem dL_tagAt_10 : decode cL_tagAt 10 = .ok (.i2l, 1) := by decide +kernel
theorem dL_tagAt_11 : decode cL_tagAt 11 = .ok (.lastore, 1) := by decide +kernel
theorem dL_tagAt_12 : decode cL_tagAt 12 = .ok (.goto 7, 3) := by decide +kernel
theorem dL_tagAt_15 : decode cL_tagAt 15 = .ok (.astore 5, 2) := by decide +kernel
theorem dL_tagAt_17 : decode cL_tagAt 17 = .ok (.iconst 1, 1) := by decide +kernel
theorem dL_tagAt_18 : decode cL_tagAt 18 = .ok (.ireturn, 1) := by decide +kernel
theorem dL_tagAt_19 : decode cL_tagAt 19 = .ok (.iconst 0, 1) := by decide +kernel
theorem dL_tagAt_20 : decode cL_tagAt 20 = .ok (.ireturn, 1) := by decide +kernel
theorem dL_valueAt_0 : decode cL_valueAt 0 = .ok (.aload 4, 2) := by decide +kernel
theorem dL_valueAt_2 : decode cL_valueAt 2 = .ok (.iconst 0, 1) := by decide +kernel
theorem dL_valueAt_3 : decode cL_valueAt 3 = .ok (.aload_n 0, 1) := by decide +kernel
theorem dL_valueAt_4 : decode cL_valueAt 4 = .ok (.iload_n 1, 1) := by decide +kernel
theorem dL_valueAt_5 : decode cL_valueAt 5 = .ok (.iload_n 2, 1) := by decide +kernel
theorem dL_valueAt_6 : decode cL_valueAt 6 = .ok (.iload_n 3, 1) := by decide +kernel
theorem dL_valueAt_7 : decode cL_valueAt 7 = .ok (.invokevirtual 57, 3) := by decide +kernel
theorem dL_valueAt_10 : decode cL_valueAt 10 = .ok (.i2l, 1) := by decide +kernel
theorem dL_valueAt_11 : decode cL_valueAt 11 = .ok (.lastore, 1) := by decide +kernel
theorem dL_valueAt_12 : decode cL_valueAt 12 = .ok (.goto 7, 3) := by decide +kernel
theorem dL_valueAt_15 : decode cL_valueAt 15 = .ok (.astore 5, 2) := by decide +kernel
theorem dL_valueAt_17 : decode cL_valueAt 17 = .ok (.iconst 1, 1) := by decide +kernel
theorem dL_valueAt_18 : decode cL_valueAt 18 = .ok (.ireturn, 1) := by decide +kernel
theorem dL_valueAt_19 : decode cL_valueAt 19 = .ok (.iconst 0, 1) := by decide +kernel
theorem dL_valueAt_20 : decode cL_valueAt 20 = .ok (.ireturn, 1) := by decide +kernel
theorem dL_order_0 : decode cL_order 0 = .ok (.aload 4, 2) := by decide +kernel
theorem dL_order_2 : decode cL_order 2 = .ok (.iconst 0, 1) := by decide +kernel
theorem dL_order_3 : decode cL_order 3 = .ok (.aload_n 0, 1) := by decide +kernel
theorem dL_order_4 : decode cL_order 4 = .ok (.iload_n 1, 1) := by decide +kernel
theorem dL_order_5 : decode cL_order 5 = .ok (.iload_n 2, 1) := by decide +kernel
theorem dL_order_6 : decode cL_order 6 = .ok (.iload_n 3, 1) := by decide +kernel
theorem dL_order_7 : decode cL_order 7 = .ok (.invokevirtual 60, 3) := by decide +kernel
theorem dL_order_10 : decode cL_order 10 = .ok (.i2l, 1) := by decide +kernel
theorem dL_order_11 : decode cL_order 11 = .ok (.lastore, 1) := by decide +kernel
theorem dL_order_12 : decode cL_order 12 = .ok (.goto 11, 3) := by decide +kernel
theorem dL_order_15 : decode cL_order 15 = .ok (.astore 5, 2) := by decide +kernel
theorem dL_order_17 : decode cL_order 17 = .ok (.iconst 1, 1) := by decide +kernel
theorem dL_order_18 : decode cL_order 18 = .ok (.ireturn, 1) := by decide +kernel
theorem dL_order_19 : decode cL_order 19 = .ok (.astore 5, 2) := by decide +kernel
theorem dL_order_21 : decode cL_order 21 = .ok (.iconst 2, 1) := by decide +kernel
theorem dL_order_22 : decode cL_order 22 = .ok (.ireturn, 1) := by decide +kernel
theorem dL_order_23 : decode cL_order 23 = .ok (.iconst 0, 1) := by decide +kernel
theorem dL_order_24 : decode cL_order 24 = .ok (.ireturn, 1) := by decide +kernel
theorem dL_cancel_0 : decode cL_cancel 0 = .ok (.aload_n 2, 1) := by decide +kernel
theorem dL_cancel_1 : decode cL_cancel 1 = .ok (.iconst 0, 1) := by decide +kernel
theorem dL_cancel_2 : decode cL_cancel 2 = .ok (.aload_n 0, 1) := by decide +kernel
theorem dL_cancel_3 : decode cL_cancel 3 = .ok (.iload_n 1, 1) := by decide +kernel
theorem dL_cancel_4 : decode cL_cancel 4 = .ok (.invokevirtual 64, 3) := by decide +kernel
theorem dL_cancel_7 : decode cL_cancel 7 = .ok (.i2l, 1) := by decide +kernel
theorem dL_cancel_8 : decode cL_cancel 8 = .ok (.lastore, 1) := by decide +kernel
theorem dL_cancel_9 : decode cL_cancel 9 = .ok (.goto 9, 3) := by decide +kernel
theorem dL_cancel_12 : decode cL_cancel 12 = .ok (.astore_n 3, 1) := by decide +kernel
theorem dL_cancel_13 : decode cL_cancel 13 = .ok (.iconst 1, 1) := by decide +kernel
theorem dL_cancel_14 : decode cL_cancel 14 = .ok (.ireturn, 1) := by decide +kernel
theorem dL_cancel_15 : decode cL_cancel 15 = .ok (.astore_n 3, 1) := by decide +kernel
theorem dL_cancel_16 : decode cL_cancel 16 = .ok (.iconst 2, 1) := by decide +kernel
theorem dL_cancel_17 : decode cL_cancel 17 = .ok (.ireturn, 1) := by decide +kernel
theorem dL_cancel_18 : decode cL_cancel 18 = .ok (.iconst 0, 1) := by decide +kernel
theorem dL_cancel_19 : decode cL_cancel 19 = .ok (.ireturn, 1) := by decide +kernel
theorem dL_replace_0 : decode cL_replace 0 = .ok (.aload 4, 2) := by decide +kernel
theorem dL_replace_2 : decode cL_replace 2 = .ok (.iconst 0, 1) := by decide +kernel
theorem dL_replace_3 : decode cL_replace 3 = .ok (.aload_n 0, 1) := by decide +kernel
theorem dL_replace_4 : decode cL_replace 4 = .ok (.iload_n 1, 1) := by decide +kernel
theorem dL_replace_5 : decode cL_replace 5 = .ok (.iload_n 2, 1) := by decide +kernel
theorem dL_replace_6 : decode cL_replace 6 = .ok (.iload_n 3, 1) := by decide +kernel
theorem dL_replace_7 : decode cL_replace 7 = .ok (.invokevirtual 67, 3) := by decide +kernel
theorem dL_replace_10 : decode cL_replace 10 = .ok (.i2l, 1) := by decide +kernel
theorem dL_replace_11 : decode cL_replace 11 = .ok (.lastore, 1) := by decide +kernel
theorem dL_replace_12 : decode cL_replace 12 = .ok (.goto 15, 3) := by decide +kernel
theorem dL_replace_15 : decode cL_replace 15 = .ok (.astore 5, 2) := by decide +kernel
theorem dL_replace_17 : decode cL_replace 17 = .ok (.iconst 1, 1) := by decide +kernel
theorem dL_replace_18 : decode cL_replace 18 = .ok (.ireturn, 1) := by decide +kernel
theorem dL_replace_19 : decode cL_replace 19 = .ok (.astore 5, 2) := by decide +kernel
theorem dL_replace_21 : decode cL_replace 21 = .ok (.iconst 2, 1) := by decide +kernel
theorem dL_replace_22 : decode cL_replace 22 = .ok (.ireturn, 1) := by decide +kernel
theorem dL_replace_23 : decode cL_replace 23 = .ok (.astore 5, 2) := by decide +kernel
theorem dL_replace_25 : decode cL_replace 25 = .ok (.iconst 3, 1) := by decide +kernel
theorem dL_replace_26 : decode cL_replace 26 = .ok (.ireturn, 1) := by decide +kernel
theorem dL_replace_27 : decode cL_replace 27 = .ok (.iconst 0, 1) := by decide +kernel
theorem dL_replace_28 : decode cL_replace 28 = .ok (.ireturn, 1) := by decide +kernel
theorem dL_stateOf_0 : decode cL_stateOf 0 = .ok (.aload_n 2, 1) := by decide +kernel
theorem dL_stateOf_1 : decode cL_stateOf 1 = .ok (.iconst 0, 1) := by decide +kernel
theorem dL_stateOf_2 : decode cL_stateOf 2 = .ok (.aload_n 0, 1) := by decide +kernel
theorem dL_stateOf_3 : decode cL_stateOf 3 = .ok (.iload_n 1, 1) := by decide +kernel
theorem dL_stateOf_4 : decode cL_stateOf 4 = .ok (.invokevirtual 70, 3) := by decide +kernel
theorem dL_stateOf_7 : decode cL_stateOf 7 = .ok (.i2l, 1) := by decide +kernel
theorem dL_stateOf_8 : decode cL_stateOf 8 = .ok (.lastore, 1) := by decide +kernel
theorem dL_stateOf_9 : decode cL_stateOf 9 = .ok (.goto 6, 3) := by decide +kernel
theorem dL_stateOf_12 : decode cL_stateOf 12 = .ok (.astore_n 3, 1) := by decide +kernel
theorem dL_stateOf_13 : decode cL_stateOf 13 = .ok (.iconst 1, 1) := by decide +kernel
theorem dL_stateOf_14 : decode cL_stateOf 14 = .ok (.ireturn, 1) := by decide +kernel
theorem dL_stateOf_15 : decode cL_stateOf 15 = .ok (.iconst 0, 1) := by decide +kernel
theorem dL_stateOf_16 : decode cL_stateOf 16 = .ok (.ireturn, 1) := by decide +kernel
theorem dL_isLeftOut_0 : decode cL_isLeftOut 0 = .ok (.aload_n 2, 1) := by decide +kernel
theorem dL_isLeftOut_1 : decode cL_isLeftOut 1 = .ok (.iconst 0, 1) := by decide +kernel
theorem dL_isLeftOut_2 : decode cL_isLeftOut 2 = .ok (.aload_n 0, 1) := by decide +kernel
theorem dL_isLeftOut_3 : decode cL_isLeftOut 3 = .ok (.iload_n 1, 1) := by decide +kernel
theorem dL_isLeftOut_4 : decode cL_isLeftOut 4 = .ok (.invokevirtual 73, 3) := by decide +kernel
theorem dL_isLeftOut_7 : decode cL_isLeftOut 7 = .ok (.ifCond .eq 7, 3) := by decide +kernel
theorem dL_isLeftOut_10 : decode cL_isLeftOut 10 = .ok (.lconst 1, 1) := by decide +kernel
theorem dL_isLeftOut_11 : decode cL_isLeftOut 11 = .ok (.goto 4, 3) := by decide +kernel
theorem dL_isLeftOut_14 : decode cL_isLeftOut 14 = .ok (.lconst 0, 1) := by decide +kernel
theorem dL_isLeftOut_15 : decode cL_isLeftOut 15 = .ok (.lastore, 1) := by decide +kernel
theorem dL_isLeftOut_16 : decode cL_isLeftOut 16 = .ok (.goto 6, 3) := by decide +kernel
theorem dL_isLeftOut_19 : decode cL_isLeftOut 19 = .ok (.astore_n 3, 1) := by decide +kernel
theorem dL_isLeftOut_20 : decode cL_isLeftOut 20 = .ok (.iconst 1, 1) := by decide +kernel
theorem dL_isLeftOut_21 : decode cL_isLeftOut 21 = .ok (.ireturn, 1) := by decide +kernel
theorem dL_isLeftOut_22 : decode cL_isLeftOut 22 = .ok (.iconst 0, 1) := by decide +kernel
theorem dL_isLeftOut_23 : decode cL_isLeftOut 23 = .ok (.ireturn, 1) := by decide +kernel
theorem dL_underWay_0 : decode cL_underWay 0 = .ok (.aload_n 2, 1) := by decide +kernel
theorem dL_underWay_1 : decode cL_underWay 1 = .ok (.iconst 0, 1) := by decide +kernel
theorem dL_underWay_2 : decode cL_underWay 2 = .ok (.aload_n 0, 1) := by decide +kernel
theorem dL_underWay_3 : decode cL_underWay 3 = .ok (.iload_n 1, 1) := by decide +kernel
theorem dL_underWay_4 : decode cL_underWay 4 = .ok (.invokevirtual 76, 3) := by decide +kernel
theorem dL_underWay_7 : decode cL_underWay 7 = .ok (.i2l, 1) := by decide +kernel
theorem dL_underWay_8 : decode cL_underWay 8 = .ok (.lastore, 1) := by decide +kernel
theorem dL_underWay_9 : decode cL_underWay 9 = .ok (.goto 6, 3) := by decide +kernel
theorem dL_underWay_12 : decode cL_underWay 12 = .ok (.astore_n 3, 1) := by decide +kernel
theorem dL_underWay_13 : decode cL_underWay 13 = .ok (.iconst 1, 1) := by decide +kernel
theorem dL_underWay_14 : decode cL_underWay 14 = .ok (.ireturn, 1) := by decide +kernel
theorem dL_underWay_15 : decode cL_underWay 15 = .ok (.iconst 0, 1) := by decide +kernel
theorem dL_underWay_16 : decode cL_underWay 16 = .ok (.ireturn, 1) := by decide +kernel
theorem dL_quote_0 : decode cL_quote 0 = .ok (.aload 5, 2) := by decide +kernel
theorem dL_quote_2 : decode cL_quote 2 = .ok (.iconst 0, 1) := by decide +kernel
theorem dL_quote_3 : decode cL_quote 3 = .ok (.aload_n 0, 1) := by decide +kernel
theorem dL_quote_4 : decode cL_quote 4 = .ok (.iload_n 1, 1) := by decide +kernel
theorem dL_quote_5 : decode cL_quote 5 = .ok (.iload_n 2, 1) := by decide +kernel
theorem dL_quote_6 : decode cL_quote 6 = .ok (.iload_n 3, 1) := by decide +kernel
theorem dL_quote_7 : decode cL_quote 7 = .ok (.iload 4, 2) := by decide +kernel
theorem dL_quote_9 : decode cL_quote 9 = .ok (.invokevirtual 79, 3) := by decide +kernel
theorem dL_quote_12 : decode cL_quote 12 = .ok (.i2l, 1) := by decide +kernel
theorem dL_quote_13 : decode cL_quote 13 = .ok (.lastore, 1) := by decide +kernel
theorem dL_quote_14 : decode cL_quote 14 = .ok (.goto 11, 3) := by decide +kernel
theorem dL_quote_17 : decode cL_quote 17 = .ok (.astore 6, 2) := by decide +kernel
theorem dL_quote_19 : decode cL_quote 19 = .ok (.iconst 1, 1) := by decide +kernel
theorem dL_quote_20 : decode cL_quote 20 = .ok (.ireturn, 1) := by decide +kernel
theorem dL_quote_21 : decode cL_quote 21 = .ok (.astore 6, 2) := by decide +kernel
theorem dL_quote_23 : decode cL_quote 23 = .ok (.iconst 2, 1) := by decide +kernel
theorem dL_quote_24 : decode cL_quote 24 = .ok (.ireturn, 1) := by decide +kernel
theorem dL_quote_25 : decode cL_quote 25 = .ok (.iconst 0, 1) := by decide +kernel
theorem dL_quote_26 : decode cL_quote 26 = .ok (.ireturn, 1) := by decide +kernel
theorem dL_quoted_0 : decode cL_quoted 0 = .ok (.aload_n 3, 1) := by decide +kernel
theorem dL_quoted_1 : decode cL_quoted 1 = .ok (.iconst 0, 1) := by decide +kernel
theorem dL_quoted_2 : decode cL_quoted 2 = .ok (.aload_n 0, 1) := by decide +kernel
theorem dL_quoted_3 : decode cL_quoted 3 = .ok (.iload_n 1, 1) := by decide +kernel
theorem dL_quoted_4 : decode cL_quoted 4 = .ok (.iload_n 2, 1) := by decide +kernel
theorem dL_quoted_5 : decode cL_quoted 5 = .ok (.invokevirtual 83, 3) := by decide +kernel
theorem dL_quoted_8 : decode cL_quoted 8 = .ok (.i2l, 1) := by decide +kernel
theorem dL_quoted_9 : decode cL_quoted 9 = .ok (.lastore, 1) := by decide +kernel
theorem dL_quoted_10 : decode cL_quoted 10 = .ok (.goto 7, 3) := by decide +kernel
theorem dL_quoted_13 : decode cL_quoted 13 = .ok (.astore 4, 2) := by decide +kernel
theorem dL_quoted_15 : decode cL_quoted 15 = .ok (.iconst 1, 1) := by decide +kernel
theorem dL_quoted_16 : decode cL_quoted 16 = .ok (.ireturn, 1) := by decide +kernel
theorem dL_quoted_17 : decode cL_quoted 17 = .ok (.iconst 0, 1) := by decide +kernel
theorem dL_quoted_18 : decode cL_quoted 18 = .ok (.ireturn, 1) := by decide +kernel
theorem dL_bust_0 : decode cL_bust 0 = .ok (.aload_n 2, 1) := by decide +kernel
theorem dL_bust_1 : decode cL_bust 1 = .ok (.iconst 0, 1) := by decide +kernel
theorem dL_bust_2 : decode cL_bust 2 = .ok (.aload_n 0, 1) := by decide +kernel
theorem dL_bust_3 : decode cL_bust 3 = .ok (.iload_n 1, 1) := by decide +kernel
theorem dL_bust_4 : decode cL_bust 4 = .ok (.invokevirtual 87, 3) := by decide +kernel
theorem dL_bust_7 : decode cL_bust 7 = .ok (.i2l, 1) := by decide +kernel
theorem dL_bust_8 : decode cL_bust 8 = .ok (.lastore, 1) := by decide +kernel
theorem dL_bust_9 : decode cL_bust 9 = .ok (.goto 9, 3) := by decide +kernel
theorem dL_bust_12 : decode cL_bust 12 = .ok (.astore_n 3, 1) := by decide +kernel
theorem dL_bust_13 : decode cL_bust 13 = .ok (.iconst 1, 1) := by decide +kernel
theorem dL_bust_14 : decode cL_bust 14 = .ok (.ireturn, 1) := by decide +kernel
theorem dL_bust_15 : decode cL_bust 15 = .ok (.astore_n 3, 1) := by decide +kernel
theorem dL_bust_16 : decode cL_bust 16 = .ok (.iconst 2, 1) := by decide +kernel
theorem dL_bust_17 : decode cL_bust 17 = .ok (.ireturn, 1) := by decide +kernel
theorem dL_bust_18 : decode cL_bust 18 = .ok (.iconst 0, 1) := by decide +kernel
theorem dL_bust_19 : decode cL_bust 19 = .ok (.ireturn, 1) := by decide +kernel
theorem dL_correct_0 : decode cL_correct 0 = .ok (.aload_n 3, 1) := by decide +kernel
theorem dL_correct_1 : decode cL_correct 1 = .ok (.iconst 0, 1) := by decide +kernel
theorem dL_correct_2 : decode cL_correct 2 = .ok (.aload_n 0, 1) := by decide +kernel
theorem dL_correct_3 : decode cL_correct 3 = .ok (.iload_n 1, 1) := by decide +kernel
theorem dL_correct_4 : decode cL_correct 4 = .ok (.iload_n 2, 1) := by decide +kernel
theorem dL_correct_5 : decode cL_correct 5 = .ok (.invokevirtual 90, 3) := by decide +kernel
theorem dL_correct_8 : decode cL_correct 8 = .ok (.i2l, 1) := by decide +kernel
theorem dL_correct_9 : decode cL_correct 9 = .ok (.lastore, 1) := by decide +kernel
theorem dL_correct_10 : decode cL_correct 10 = .ok (.goto 15, 3) := by decide +kernel
theorem dL_correct_13 : decode cL_correct 13 = .ok (.astore 4, 2) := by decide +kernel
theorem dL_correct_15 : decode cL_correct 15 = .ok (.iconst 1, 1) := by decide +kernel
theorem dL_correct_16 : decode cL_correct 16 = .ok (.ireturn, 1) := by decide +kernel
theorem dL_correct_17 : decode cL_correct 17 = .ok (.astore 4, 2) := by decide +kernel
theorem dL_correct_19 : decode cL_correct 19 = .ok (.iconst 2, 1) := by decide +kernel
theorem dL_correct_20 : decode cL_correct 20 = .ok (.ireturn, 1) := by decide +kernel
theorem dL_correct_21 : decode cL_correct 21 = .ok (.astore 4, 2) := by decide +kernel
theorem dL_correct_23 : decode cL_correct 23 = .ok (.iconst 3, 1) := by decide +kernel
theorem dL_correct_24 : decode cL_correct 24 = .ok (.ireturn, 1) := by decide +kernel
theorem dL_correct_25 : decode cL_correct 25 = .ok (.iconst 0, 1) := by decide +kernel
theorem dL_correct_26 : decode cL_correct 26 = .ok (.ireturn, 1) := by decide +kernel
theorem dL_left_0 : decode cL_left 0 = .ok (.aload_n 3, 1) := by decide +kernel
theorem dL_left_1 : decode cL_left 1 = .ok (.iconst 0, 1) := by decide +kernel
theorem dL_left_2 : decode cL_left 2 = .ok (.aload_n 0, 1) := by decide +kernel
theorem dL_left_3 : decode cL_left 3 = .ok (.iload_n 1, 1) := by decide +kernel
theorem dL_left_4 : decode cL_left 4 = .ok (.iload_n 2, 1) := by decide +kernel
theorem dL_left_5 : decode cL_left 5 = .ok (.invokevirtual 93, 3) := by decide +kernel
theorem dL_left_8 : decode cL_left 8 = .ok (.i2l, 1) := by decide +kernel
theorem dL_left_9 : decode cL_left 9 = .ok (.lastore, 1) := by decide +kernel
theorem dL_left_10 : decode cL_left 10 = .ok (.goto 7, 3) := by decide +kernel
theorem dL_left_13 : decode cL_left 13 = .ok (.astore 4, 2) := by decide +kernel
theorem dL_left_15 : decode cL_left 15 = .ok (.iconst 1, 1) := by decide +kernel
theorem dL_left_16 : decode cL_left 16 = .ok (.ireturn, 1) := by decide +kernel
theorem dL_left_17 : decode cL_left 17 = .ok (.iconst 0, 1) := by decide +kernel
theorem dL_left_18 : decode cL_left 18 = .ok (.ireturn, 1) := by decide +kernel
theorem dL_done_0 : decode cL_done 0 = .ok (.aload_n 3, 1) := by decide +kernel
theorem dL_done_1 : decode cL_done 1 = .ok (.iconst 0, 1) := by decide +kernel
theorem dL_done_2 : decode cL_done 2 = .ok (.aload_n 0, 1) := by decide +kernel
theorem dL_done_3 : decode cL_done 3 = .ok (.iload_n 1, 1) := by decide +kernel
theorem dL_done_4 : decode cL_done 4 = .ok (.iload_n 2, 1) := by decide +kernel
theorem dL_done_5 : decode cL_done 5 = .ok (.invokevirtual 96, 3) := by decide +kernel
theorem dL_done_8 : decode cL_done 8 = .ok (.i2l, 1) := by decide +kernel
theorem dL_done_9 : decode cL_done 9 = .ok (.lastore, 1) := by decide +kernel
theorem dL_done_10 : decode cL_done 10 = .ok (.goto 7, 3) := by decide +kernel
theorem dL_done_13 : decode cL_done 13 = .ok (.astore 4, 2) := by decide +kernel
theorem dL_done_15 : decode cL_done 15 = .ok (.iconst 1, 1) := by decide +kernel
theorem dL_done_16 : decode cL_done 16 = .ok (.ireturn, 1) := by decide +kernel
theorem dL_done_17 : decode cL_done 17 = .ok (.iconst 0, 1) := by decide +kernel
theorem dL_done_18 : decode cL_done 18 = .ok (.ireturn, 1) := by decide +kernel
theorem dL_doneByLog_0 : decode cL_doneByLog 0 = .ok (.aload_n 3, 1) := by decide +kernel
theorem dL_doneByLog_1 : decode cL_doneByLog 1 = .ok (.iconst 0, 1) := by decide +kernel
theorem dL_doneByLog_2 : decode cL_doneByLog 2 = .ok (.aload_n 0, 1) := by decide +kernel
theorem dL_doneByLog_3 : decode cL_doneByLog 3 = .ok (.iload_n 1, 1) := by decide +kernel
theorem dL_doneByLog_4 : decode cL_doneByLog 4 = .ok (.iload_n 2, 1) := by decide +kernel
theorem dL_doneByLog_5 : decode cL_doneByLog 5 = .ok (.invokevirtual 99, 3) := by decide +kernel
theorem dL_doneByLog_8 : decode cL_doneByLog 8 = .ok (.i2l, 1) := by decide +kernel
theorem dL_doneByLog_9 : decode cL_doneByLog 9 = .ok (.lastore, 1) := by decide +kernel
theorem dL_doneByLog_10 : decode cL_doneByLog 10 = .ok (.goto 7, 3) := by decide +kernel
theorem dL_doneByLog_13 : decode cL_doneByLog 13 = .ok (.astore 4, 2) := by decide +kernel
theorem dL_doneByLog_15 : decode cL_doneByLog 15 = .ok (.iconst 1, 1) := by decide +kernel
theorem dL_doneByLog_16 : decode cL_doneByLog 16 = .ok (.ireturn, 1) := by decide +kernel
theorem dL_doneByLog_17 : decode cL_doneByLog 17 = .ok (.iconst 0, 1) := by decide +kernel
theorem dL_doneByLog_18 : decode cL_doneByLog 18 = .ok (.ireturn, 1) := by decide +kernel
theorem dL_out_0 : decode cL_out 0 = .ok (.aload_n 3, 1) := by decide +kernel
theorem dL_out_1 : decode cL_out 1 = .ok (.iconst 0, 1) := by decide +kernel
theorem dL_out_2 : decode cL_out 2 = .ok (.aload_n 0, 1) := by decide +kernel
theorem dL_out_3 : decode cL_out 3 = .ok (.iload_n 1, 1) := by decide +kernel
theorem dL_out_4 : decode cL_out 4 = .ok (.iload_n 2, 1) := by decide +kernel
theorem dL_out_5 : decode cL_out 5 = .ok (.invokevirtual 102, 3) := by decide +kernel
theorem dL_out_8 : decode cL_out 8 = .ok (.i2l, 1) := by decide +kernel
theorem dL_out_9 : decode cL_out 9 = .ok (.lastore, 1) := by decide +kernel
theorem dL_out_10 : decode cL_out 10 = .ok (.goto 7, 3) := by decide +kernel
theorem dL_out_13 : decode cL_out 13 = .ok (.astore 4, 2) := by decide +kernel
theorem dL_out_15 : decode cL_out 15 = .ok (.iconst 1, 1) := by decide +kernel
theorem dL_out_16 : decode cL_out 16 = .ok (.ireturn, 1) := by decide +kernel
theorem dL_out_17 : decode cL_out 17 = .ok (.iconst 0, 1) := by decide +kernel
theorem dL_out_18 : decode cL_out 18 = .ok (.ireturn, 1) := by decide +kernel
theorem dL_venues_0 : decode cL_venues 0 = .ok (.aload_n 2, 1) := by decide +kernel
theorem dL_venues_1 : decode cL_venues 1 = .ok (.iconst 0, 1) := by decide +kernel
theorem dL_venues_2 : decode cL_venues 2 = .ok (.aload_n 0, 1) := by decide +kernel
theorem dL_venues_3 : decode cL_venues 3 = .ok (.iload_n 1, 1) := by decide +kernel
theorem dL_venues_4 : decode cL_venues 4 = .ok (.invokevirtual 105, 3) := by decide +kernel
theorem dL_venues_7 : decode cL_venues 7 = .ok (.i2l, 1) := by decide +kernel
theorem dL_venues_8 : decode cL_venues 8 = .ok (.lastore, 1) := by decide +kernel
theorem dL_venues_9 : decode cL_venues 9 = .ok (.goto 6, 3) := by decide +kernel
theorem dL_venues_12 : decode cL_venues 12 = .ok (.astore_n 3, 1) := by decide +kernel
theorem dL_venues_13 : decode cL_venues 13 = .ok (.iconst 1, 1) := by decide +kernel
theorem dL_venues_14 : decode cL_venues 14 = .ok (.ireturn, 1) := by decide +kernel
theorem dL_venues_15 : decode cL_venues 15 = .ok (.iconst 0, 1) := by decide +kernel
theorem dL_venues_16 : decode cL_venues 16 = .ok (.ireturn, 1) := by decide +kernel
theorem dL_total_0 : decode cL_total 0 = .ok (.aload 5, 2) := by decide +kernel
theorem dL_total_2 : decode cL_total 2 = .ok (.iconst 0, 1) := by decide +kernel
theorem dL_total_3 : decode cL_total 3 = .ok (.aload_n 0, 1) := by decide +kernel
theorem dL_total_4 : decode cL_total 4 = .ok (.iload_n 1, 1) := by decide +kernel
theorem dL_total_5 : decode cL_total 5 = .ok (.iload_n 2, 1) := by decide +kernel
theorem dL_total_6 : decode cL_total 6 = .ok (.iload_n 3, 1) := by decide +kernel
theorem dL_total_7 : decode cL_total 7 = .ok (.iload 4, 2) := by decide +kernel
theorem dL_total_9 : decode cL_total 9 = .ok (.invokevirtual 108, 3) := by decide +kernel
theorem dL_total_12 : decode cL_total 12 = .ok (.i2l, 1) := by decide +kernel
theorem dL_total_13 : decode cL_total 13 = .ok (.lastore, 1) := by decide +kernel
theorem dL_total_14 : decode cL_total 14 = .ok (.goto 11, 3) := by decide +kernel
theorem dL_total_17 : decode cL_total 17 = .ok (.astore 6, 2) := by decide +kernel
theorem dL_total_19 : decode cL_total 19 = .ok (.iconst 1, 1) := by decide +kernel
theorem dL_total_20 : decode cL_total 20 = .ok (.ireturn, 1) := by decide +kernel
theorem dL_total_21 : decode cL_total 21 = .ok (.astore 6, 2) := by decide +kernel
theorem dL_total_23 : decode cL_total 23 = .ok (.iconst 2, 1) := by decide +kernel
theorem dL_total_24 : decode cL_total 24 = .ok (.ireturn, 1) := by decide +kernel
theorem dL_total_25 : decode cL_total 25 = .ok (.iconst 0, 1) := by decide +kernel
theorem dL_total_26 : decode cL_total 26 = .ok (.ireturn, 1) := by decide +kernel
theorem gh_connect : (Jvm.Cond.codeWith ({ cls := "TradeLineLaw", name := "connect", desc := "(LTradeLine;Z)I" } : Jvm.MethodName) method_3_code (3 : Nat) (Option.some Jvm.ClassFile.FieldType.int) [((0 : Nat), (5 : Nat), (8 : Nat), (13 : Nat))]) ∈ GT := in_tables_1_2 (List.mem_of_getElem? (i := 22) (by decide +kernel)) (by decide +kernel)
def gwL_connect : List Cond := (Jvm.Cond.codeWith ({ cls := "TradeLineLaw", name := "connect", desc := "(LTradeLine;Z)I" } : Jvm.MethodName) method_3_code (3 : Nat) (Option.some Jvm.ClassFile.FieldType.int) [((0 : Nat), (5 : Nat), (8 : Nat), (13 : Nat))]) :: GT
theorem gh_cut : (Jvm.Cond.codeWith ({ cls := "TradeLineLaw", name := "cut", desc := "(LTradeLine;[J)I" } : Jvm.MethodName) method_4_code (3 : Nat) (Option.some Jvm.ClassFile.FieldType.int) [((0 : Nat), (8 : Nat), (11 : Nat), (13 : Nat))]) ∈ GT := in_tables_1_2 (List.mem_of_getElem? (i := 231) (by decide +kernel)) (by decide +kernel)
def gwL_cut : List Cond := (Jvm.Cond.codeWith ({ cls := "TradeLineLaw", name := "cut", desc := "(LTradeLine;[J)I" } : Jvm.MethodName) method_4_code (3 : Nat) (Option.some Jvm.ClassFile.FieldType.int) [((0 : Nat), (8 : Nat), (11 : Nat), (13 : Nat))]) :: GT
theorem gh_come : (Jvm.Cond.codeWith ({ cls := "TradeLineLaw", name := "come", desc := "(LTradeLine;II[J)I" } : Jvm.MethodName) method_5_code (5 : Nat) (Option.some Jvm.ClassFile.FieldType.int) [((0 : Nat), (10 : Nat), (13 : Nat), (23 : Nat)), ((0 : Nat), (10 : Nat), (17 : Nat), (25 : Nat))]) ∈ GT := in_tables_1_3 (List.mem_of_getElem? (i := 18) (by decide +kernel)) (by decide +kernel)
def gwL_come : List Cond := (Jvm.Cond.codeWith ({ cls := "TradeLineLaw", name := "come", desc := "(LTradeLine;II[J)I" } : Jvm.MethodName) method_5_code (5 : Nat) (Option.some Jvm.ClassFile.FieldType.int) [((0 : Nat), (10 : Nat), (13 : Nat), (23 : Nat)), ((0 : Nat), (10 : Nat), (17 : Nat), (25 : Nat))]) :: GT
theorem gh_garble : (Jvm.Cond.codeWith ({ cls := "TradeLineLaw", name := "garble", desc := "(LTradeLine;II[J)I" } : Jvm.MethodName) method_6_code (5 : Nat) (Option.some Jvm.ClassFile.FieldType.int) [((0 : Nat), (10 : Nat), (13 : Nat), (23 : Nat))]) ∈ GT := in_tables_1_5 (List.mem_of_getElem? (i := 42) (by decide +kernel)) (by decide +kernel)
def gwL_garble : List Cond := (Jvm.Cond.codeWith ({ cls := "TradeLineLaw", name := "garble", desc := "(LTradeLine;II[J)I" } : Jvm.MethodName) method_6_code (5 : Nat) (Option.some Jvm.ClassFile.FieldType.int) [((0 : Nat), (10 : Nat), (13 : Nat), (23 : Nat))]) :: GT
theorem gh_pass : (Jvm.Cond.codeWith ({ cls := "TradeLineLaw", name := "pass", desc := "(LTradeLine;I[J)I" } : Jvm.MethodName) method_7_code (4 : Nat) (Option.some Jvm.ClassFile.FieldType.int) [((0 : Nat), (9 : Nat), (12 : Nat), (25 : Nat))]) ∈ GT := in_tables_1_5 (List.mem_of_getElem? (i := 54) (by decide +kernel)) (by decide +kernel)
def gwL_pass : List Cond := (Jvm.Cond.codeWith ({ cls := "TradeLineLaw", name := "pass", desc := "(LTradeLine;I[J)I" } : Jvm.MethodName) method_7_code (4 : Nat) (Option.some Jvm.ClassFile.FieldType.int) [((0 : Nat), (9 : Nat), (12 : Nat), (25 : Nat))]) :: GT
theorem gh_isOn : (Jvm.Cond.codeWith ({ cls := "TradeLineLaw", name := "isOn", desc := "(LTradeLine;I[J)I" } : Jvm.MethodName) method_8_code (4 : Nat) (Option.some Jvm.ClassFile.FieldType.int) [((0 : Nat), (16 : Nat), (19 : Nat), (23 : Nat))]) ∈ GT := in_tables_1_5 (List.mem_of_getElem? (i := 66) (by decide +kernel)) (by decide +kernel)
def gwL_isOn : List Cond := (Jvm.Cond.codeWith ({ cls := "TradeLineLaw", name := "isOn", desc := "(LTradeLine;I[J)I" } : Jvm.MethodName) method_8_code (4 : Nat) (Option.some Jvm.ClassFile.FieldType.int) [((0 : Nat), (16 : Nat), (19 : Nat), (23 : Nat))]) :: GT
theorem gh_onWay : (Jvm.Cond.codeWith ({ cls := "TradeLineLaw", name := "onWay", desc := "(LTradeLine;I[J)I" } : Jvm.MethodName) method_9_code (4 : Nat) (Option.some Jvm.ClassFile.FieldType.int) [((0 : Nat), (9 : Nat), (12 : Nat), (23 : Nat))]) ∈ GT := in_tables_1_5 (List.mem_of_getElem? (i := 73) (by decide +kernel)) (by decide +kernel)
def gwL_onWay : List Cond := (Jvm.Cond.codeWith ({ cls := "TradeLineLaw", name := "onWay", desc := "(LTradeLine;I[J)I" } : Jvm.MethodName) method_9_code (4 : Nat) (Option.some Jvm.ClassFile.FieldType.int) [((0 : Nat), (9 : Nat), (12 : Nat), (23 : Nat))]) :: GT
theorem gh_sent : (Jvm.Cond.codeWith ({ cls := "TradeLineLaw", name := "sent", desc := "(LTradeLine;I[J)I" } : Jvm.MethodName) method_10_code (4 : Nat) (Option.some Jvm.ClassFile.FieldType.int) [((0 : Nat), (9 : Nat), (12 : Nat), (23 : Nat))]) ∈ GT := in_tables_1_5 (List.mem_of_getElem? (i := 80) (by decide +kernel)) (by decide +kernel)
def gwL_sent : List Cond := (Jvm.Cond.codeWith ({ cls := "TradeLineLaw", name := "sent", desc := "(LTradeLine;I[J)I" } : Jvm.MethodName) method_10_code (4 : Nat) (Option.some Jvm.ClassFile.FieldType.int) [((0 : Nat), (9 : Nat), (12 : Nat), (23 : Nat))]) :: GT
theorem gh_expected : (Jvm.Cond.codeWith ({ cls := "TradeLineLaw", name := "expected", desc := "(LTradeLine;I[J)I" } : Jvm.MethodName) method_11_code (4 : Nat) (Option.some Jvm.ClassFile.FieldType.int) [((0 : Nat), (9 : Nat), (12 : Nat), (23 : Nat))]) ∈ GT := in_tables_1_5 (List.mem_of_getElem? (i := 87) (by decide +kernel)) (by decide +kernel)
def gwL_expected : List Cond := (Jvm.Cond.codeWith ({ cls := "TradeLineLaw", name := "expected", desc := "(LTradeLine;I[J)I" } : Jvm.MethodName) method_11_code (4 : Nat) (Option.some Jvm.ClassFile.FieldType.int) [((0 : Nat), (9 : Nat), (12 : Nat), (23 : Nat))]) :: GT
theorem gh_held : (Jvm.Cond.codeWith ({ cls := "TradeLineLaw", name := "held", desc := "(LTradeLine;I[J)I" } : Jvm.MethodName) method_12_code (4 : Nat) (Option.some Jvm.ClassFile.FieldType.int) [((0 : Nat), (9 : Nat), (12 : Nat), (23 : Nat))]) ∈ GT := in_tables_1_5 (List.mem_of_getElem? (i := 94) (by decide +kernel)) (by decide +kernel)
def gwL_held : List Cond := (Jvm.Cond.codeWith ({ cls := "TradeLineLaw", name := "held", desc := "(LTradeLine;I[J)I" } : Jvm.MethodName) method_12_code (4 : Nat) (Option.some Jvm.ClassFile.FieldType.int) [((0 : Nat), (9 : Nat), (12 : Nat), (23 : Nat))]) :: GT
theorem gh_fields : (Jvm.Cond.codeWith ({ cls := "TradeLineLaw", name := "fields", desc := "(LTradeLine;II[J)I" } : Jvm.MethodName) method_13_code (5 : Nat) (Option.some Jvm.ClassFile.FieldType.int) [((0 : Nat), (10 : Nat), (13 : Nat), (23 : Nat))]) ∈ GT := in_tables_1_5 (List.mem_of_getElem? (i := 101) (by decide +kernel)) (by decide +kernel)
def gwL_fields : List Cond := (Jvm.Cond.codeWith ({ cls := "TradeLineLaw", name := "fields", desc := "(LTradeLine;II[J)I" } : Jvm.MethodName) method_13_code (5 : Nat) (Option.some Jvm.ClassFile.FieldType.int) [((0 : Nat), (10 : Nat), (13 : Nat), (23 : Nat))]) :: GT
theorem gh_tagAt : (Jvm.Cond.codeWith ({ cls := "TradeLineLaw", name := "tagAt", desc := "(LTradeLine;III[J)I" } : Jvm.MethodName) method_14_code (6 : Nat) (Option.some Jvm.ClassFile.FieldType.int) [((0 : Nat), (12 : Nat), (15 : Nat), (23 : Nat))]) ∈ GT := in_tables_1_5 (List.mem_of_getElem? (i := 117) (by decide +kernel)) (by decide +kernel)
def gwL_tagAt : List Cond := (Jvm.Cond.codeWith ({ cls := "TradeLineLaw", name := "tagAt", desc := "(LTradeLine;III[J)I" } : Jvm.MethodName) method_14_code (6 : Nat) (Option.some Jvm.ClassFile.FieldType.int) [((0 : Nat), (12 : Nat), (15 : Nat), (23 : Nat))]) :: GT
theorem gh_valueAt : (Jvm.Cond.codeWith ({ cls := "TradeLineLaw", name := "valueAt", desc := "(LTradeLine;III[J)I" } : Jvm.MethodName) method_15_code (6 : Nat) (Option.some Jvm.ClassFile.FieldType.int) [((0 : Nat), (12 : Nat), (15 : Nat), (23 : Nat))]) ∈ GT := in_tables_1_5 (List.mem_of_getElem? (i := 130) (by decide +kernel)) (by decide +kernel)
def gwL_valueAt : List Cond := (Jvm.Cond.codeWith ({ cls := "TradeLineLaw", name := "valueAt", desc := "(LTradeLine;III[J)I" } : Jvm.MethodName) method_15_code (6 : Nat) (Option.some Jvm.ClassFile.FieldType.int) [((0 : Nat), (12 : Nat), (15 : Nat), (23 : Nat))]) :: GT
theorem gh_order : (Jvm.Cond.codeWith ({ cls := "TradeLineLaw", name := "order", desc := "(LTradeLine;ZII[J)I" } : Jvm.MethodName) method_16_code (6 : Nat) (Option.some Jvm.ClassFile.FieldType.int) [((0 : Nat), (12 : Nat), (15 : Nat), (25 : Nat)), ((0 : Nat), (12 : Nat), (19 : Nat), (13 : Nat))]) ∈ GT := in_tables_1_5 (List.mem_of_getElem? (i := 137) (by decide +kernel)) (by decide +kernel)
def gwL_order : List Cond := (Jvm.Cond.codeWith ({ cls := "TradeLineLaw", name := "order", desc := "(LTradeLine;ZII[J)I" } : Jvm.MethodName) method_16_code (6 : Nat) (Option.some Jvm.ClassFile.FieldType.int) [((0 : Nat), (12 : Nat), (15 : Nat), (25 : Nat)), ((0 : Nat), (12 : Nat), (19 : Nat), (13 : Nat))]) :: GT
theorem gh_cancel : (Jvm.Cond.codeWith ({ cls := "TradeLineLaw", name := "cancel", desc := "(LTradeLine;I[J)I" } : Jvm.MethodName) method_17_code (4 : Nat) (Option.some Jvm.ClassFile.FieldType.int) [((0 : Nat), (9 : Nat), (12 : Nat), (23 : Nat)), ((0 : Nat), (9 : Nat), (15 : Nat), (13 : Nat))]) ∈ GT := in_tables_1_5 (List.mem_of_getElem? (i := 212) (by decide +kernel)) (by decide +kernel)
def gwL_cancel : List Cond := (Jvm.Cond.codeWith ({ cls := "TradeLineLaw", name := "cancel", desc := "(LTradeLine;I[J)I" } : Jvm.MethodName) method_17_code (4 : Nat) (Option.some Jvm.ClassFile.FieldType.int) [((0 : Nat), (9 : Nat), (12 : Nat), (23 : Nat)), ((0 : Nat), (9 : Nat), (15 : Nat), (13 : Nat))]) :: GT
theorem gh_replace : (Jvm.Cond.codeWith ({ cls := "TradeLineLaw", name := "replace", desc := "(LTradeLine;III[J)I" } : Jvm.MethodName) method_18_code (6 : Nat) (Option.some Jvm.ClassFile.FieldType.int) [((0 : Nat), (12 : Nat), (15 : Nat), (23 : Nat)), ((0 : Nat), (12 : Nat), (19 : Nat), (25 : Nat)), ((0 : Nat), (12 : Nat), (23 : Nat), (13 : Nat))]) ∈ GT := in_tables_1_5 (List.mem_of_getElem? (i := 233) (by decide +kernel)) (by decide +kernel)
def gwL_replace : List Cond := (Jvm.Cond.codeWith ({ cls := "TradeLineLaw", name := "replace", desc := "(LTradeLine;III[J)I" } : Jvm.MethodName) method_18_code (6 : Nat) (Option.some Jvm.ClassFile.FieldType.int) [((0 : Nat), (12 : Nat), (15 : Nat), (23 : Nat)), ((0 : Nat), (12 : Nat), (19 : Nat), (25 : Nat)), ((0 : Nat), (12 : Nat), (23 : Nat), (13 : Nat))]) :: GT
theorem gh_stateOf : (Jvm.Cond.codeWith ({ cls := "TradeLineLaw", name := "stateOf", desc := "(LTradeLine;I[J)I" } : Jvm.MethodName) method_19_code (4 : Nat) (Option.some Jvm.ClassFile.FieldType.int) [((0 : Nat), (9 : Nat), (12 : Nat), (23 : Nat))]) ∈ GT := in_tables_1_6 (List.mem_of_getElem? (i := 0) (by decide +kernel)) (by decide +kernel)
def gwL_stateOf : List Cond := (Jvm.Cond.codeWith ({ cls := "TradeLineLaw", name := "stateOf", desc := "(LTradeLine;I[J)I" } : Jvm.MethodName) method_19_code (4 : Nat) (Option.some Jvm.ClassFile.FieldType.int) [((0 : Nat), (9 : Nat), (12 : Nat), (23 : Nat))]) :: GT
theorem gh_isLeftOut : (Jvm.Cond.codeWith ({ cls := "TradeLineLaw", name := "isLeftOut", desc := "(LTradeLine;I[J)I" } : Jvm.MethodName) method_20_code (4 : Nat) (Option.some Jvm.ClassFile.FieldType.int) [((0 : Nat), (16 : Nat), (19 : Nat), (23 : Nat))]) ∈ GT := in_tables_1_6 (List.mem_of_getElem? (i := 7) (by decide +kernel)) (by decide +kernel)
def gwL_isLeftOut : List Cond := (Jvm.Cond.codeWith ({ cls := "TradeLineLaw", name := "isLeftOut", desc := "(LTradeLine;I[J)I" } : Jvm.MethodName) method_20_code (4 : Nat) (Option.some Jvm.ClassFile.FieldType.int) [((0 : Nat), (16 : Nat), (19 : Nat), (23 : Nat))]) :: GT
theorem gh_underWay : (Jvm.Cond.codeWith ({ cls := "TradeLineLaw", name := "underWay", desc := "(LTradeLine;I[J)I" } : Jvm.MethodName) method_21_code (4 : Nat) (Option.some Jvm.ClassFile.FieldType.int) [((0 : Nat), (9 : Nat), (12 : Nat), (23 : Nat))]) ∈ GT := in_tables_1_6 (List.mem_of_getElem? (i := 14) (by decide +kernel)) (by decide +kernel)
def gwL_underWay : List Cond := (Jvm.Cond.codeWith ({ cls := "TradeLineLaw", name := "underWay", desc := "(LTradeLine;I[J)I" } : Jvm.MethodName) method_21_code (4 : Nat) (Option.some Jvm.ClassFile.FieldType.int) [((0 : Nat), (9 : Nat), (12 : Nat), (23 : Nat))]) :: GT
theorem gh_quote : (Jvm.Cond.codeWith ({ cls := "TradeLineLaw", name := "quote", desc := "(LTradeLine;IZII[J)I" } : Jvm.MethodName) method_22_code (7 : Nat) (Option.some Jvm.ClassFile.FieldType.int) [((0 : Nat), (14 : Nat), (17 : Nat), (23 : Nat)), ((0 : Nat), (14 : Nat), (21 : Nat), (25 : Nat))]) ∈ GT := in_tables_1_6 (List.mem_of_getElem? (i := 21) (by decide +kernel)) (by decide +kernel)
def gwL_quote : List Cond := (Jvm.Cond.codeWith ({ cls := "TradeLineLaw", name := "quote", desc := "(LTradeLine;IZII[J)I" } : Jvm.MethodName) method_22_code (7 : Nat) (Option.some Jvm.ClassFile.FieldType.int) [((0 : Nat), (14 : Nat), (17 : Nat), (23 : Nat)), ((0 : Nat), (14 : Nat), (21 : Nat), (25 : Nat))]) :: GT
theorem gh_quoted : (Jvm.Cond.codeWith ({ cls := "TradeLineLaw", name := "quoted", desc := "(LTradeLine;IZ[J)I" } : Jvm.MethodName) method_23_code (5 : Nat) (Option.some Jvm.ClassFile.FieldType.int) [((0 : Nat), (10 : Nat), (13 : Nat), (23 : Nat))]) ∈ GT := in_tables_1_6 (List.mem_of_getElem? (i := 33) (by decide +kernel)) (by decide +kernel)
def gwL_quoted : List Cond := (Jvm.Cond.codeWith ({ cls := "TradeLineLaw", name := "quoted", desc := "(LTradeLine;IZ[J)I" } : Jvm.MethodName) method_23_code (5 : Nat) (Option.some Jvm.ClassFile.FieldType.int) [((0 : Nat), (10 : Nat), (13 : Nat), (23 : Nat))]) :: GT
theorem gh_bust : (Jvm.Cond.codeWith ({ cls := "TradeLineLaw", name := "bust", desc := "(LTradeLine;I[J)I" } : Jvm.MethodName) method_24_code (4 : Nat) (Option.some Jvm.ClassFile.FieldType.int) [((0 : Nat), (9 : Nat), (12 : Nat), (23 : Nat)), ((0 : Nat), (9 : Nat), (15 : Nat), (13 : Nat))]) ∈ GT := in_tables_1_6 (List.mem_of_getElem? (i := 40) (by decide +kernel)) (by decide +kernel)
def gwL_bust : List Cond := (Jvm.Cond.codeWith ({ cls := "TradeLineLaw", name := "bust", desc := "(LTradeLine;I[J)I" } : Jvm.MethodName) method_24_code (4 : Nat) (Option.some Jvm.ClassFile.FieldType.int) [((0 : Nat), (9 : Nat), (12 : Nat), (23 : Nat)), ((0 : Nat), (9 : Nat), (15 : Nat), (13 : Nat))]) :: GT
theorem gh_correct : (Jvm.Cond.codeWith ({ cls := "TradeLineLaw", name := "correct", desc := "(LTradeLine;II[J)I" } : Jvm.MethodName) method_25_code (5 : Nat) (Option.some Jvm.ClassFile.FieldType.int) [((0 : Nat), (10 : Nat), (13 : Nat), (23 : Nat)), ((0 : Nat), (10 : Nat), (17 : Nat), (25 : Nat)), ((0 : Nat), (10 : Nat), (21 : Nat), (13 : Nat))]) ∈ GT := in_tables_1_6 (List.mem_of_getElem? (i := 56) (by decide +kernel)) (by decide +kernel)
def gwL_correct : List Cond := (Jvm.Cond.codeWith ({ cls := "TradeLineLaw", name := "correct", desc := "(LTradeLine;II[J)I" } : Jvm.MethodName) method_25_code (5 : Nat) (Option.some Jvm.ClassFile.FieldType.int) [((0 : Nat), (10 : Nat), (13 : Nat), (23 : Nat)), ((0 : Nat), (10 : Nat), (17 : Nat), (25 : Nat)), ((0 : Nat), (10 : Nat), (21 : Nat), (13 : Nat))]) :: GT
theorem gh_left : (Jvm.Cond.codeWith ({ cls := "TradeLineLaw", name := "left", desc := "(LTradeLine;II[J)I" } : Jvm.MethodName) method_26_code (5 : Nat) (Option.some Jvm.ClassFile.FieldType.int) [((0 : Nat), (10 : Nat), (13 : Nat), (23 : Nat))]) ∈ GT := in_tables_1_6 (List.mem_of_getElem? (i := 63) (by decide +kernel)) (by decide +kernel)
def gwL_left : List Cond := (Jvm.Cond.codeWith ({ cls := "TradeLineLaw", name := "left", desc := "(LTradeLine;II[J)I" } : Jvm.MethodName) method_26_code (5 : Nat) (Option.some Jvm.ClassFile.FieldType.int) [((0 : Nat), (10 : Nat), (13 : Nat), (23 : Nat))]) :: GT
theorem gh_done : (Jvm.Cond.codeWith ({ cls := "TradeLineLaw", name := "done", desc := "(LTradeLine;II[J)I" } : Jvm.MethodName) method_27_code (5 : Nat) (Option.some Jvm.ClassFile.FieldType.int) [((0 : Nat), (10 : Nat), (13 : Nat), (23 : Nat))]) ∈ GT := in_tables_1_6 (List.mem_of_getElem? (i := 75) (by decide +kernel)) (by decide +kernel)
def gwL_done : List Cond := (Jvm.Cond.codeWith ({ cls := "TradeLineLaw", name := "done", desc := "(LTradeLine;II[J)I" } : Jvm.MethodName) method_27_code (5 : Nat) (Option.some Jvm.ClassFile.FieldType.int) [((0 : Nat), (10 : Nat), (13 : Nat), (23 : Nat))]) :: GT
theorem gh_doneByLog : (Jvm.Cond.codeWith ({ cls := "TradeLineLaw", name := "doneByLog", desc := "(LTradeLine;II[J)I" } : Jvm.MethodName) method_28_code (5 : Nat) (Option.some Jvm.ClassFile.FieldType.int) [((0 : Nat), (10 : Nat), (13 : Nat), (23 : Nat))]) ∈ GT := in_tables_1_6 (List.mem_of_getElem? (i := 83) (by decide +kernel)) (by decide +kernel)
def gwL_doneByLog : List Cond := (Jvm.Cond.codeWith ({ cls := "TradeLineLaw", name := "doneByLog", desc := "(LTradeLine;II[J)I" } : Jvm.MethodName) method_28_code (5 : Nat) (Option.some Jvm.ClassFile.FieldType.int) [((0 : Nat), (10 : Nat), (13 : Nat), (23 : Nat))]) :: GT
theorem gh_out : (Jvm.Cond.codeWith ({ cls := "TradeLineLaw", name := "out", desc := "(LTradeLine;II[J)I" } : Jvm.MethodName) method_29_code (5 : Nat) (Option.some Jvm.ClassFile.FieldType.int) [((0 : Nat), (10 : Nat), (13 : Nat), (23 : Nat))]) ∈ GT := in_tables_1_6 (List.mem_of_getElem? (i := 94) (by decide +kernel)) (by decide +kernel)
def gwL_out : List Cond := (Jvm.Cond.codeWith ({ cls := "TradeLineLaw", name := "out", desc := "(LTradeLine;II[J)I" } : Jvm.MethodName) method_29_code (5 : Nat) (Option.some Jvm.ClassFile.FieldType.int) [((0 : Nat), (10 : Nat), (13 : Nat), (23 : Nat))]) :: GT
theorem gh_venues : (Jvm.Cond.codeWith ({ cls := "TradeLineLaw", name := "venues", desc := "(LTradeLine;I[J)I" } : Jvm.MethodName) method_30_code (4 : Nat) (Option.some Jvm.ClassFile.FieldType.int) [((0 : Nat), (9 : Nat), (12 : Nat), (23 : Nat))]) ∈ GT := in_tables_1_6 (List.mem_of_getElem? (i := 101) (by decide +kernel)) (by decide +kernel)
def gwL_venues : List Cond := (Jvm.Cond.codeWith ({ cls := "TradeLineLaw", name := "venues", desc := "(LTradeLine;I[J)I" } : Jvm.MethodName) method_30_code (4 : Nat) (Option.some Jvm.ClassFile.FieldType.int) [((0 : Nat), (9 : Nat), (12 : Nat), (23 : Nat))]) :: GT
theorem gh_total : (Jvm.Cond.codeWith ({ cls := "TradeLineLaw", name := "total", desc := "(LTradeLine;IIZI[J)I" } : Jvm.MethodName) method_31_code (7 : Nat) (Option.some Jvm.ClassFile.FieldType.int) [((0 : Nat), (14 : Nat), (17 : Nat), (23 : Nat)), ((0 : Nat), (14 : Nat), (21 : Nat), (25 : Nat))]) ∈ GT := in_tables_1_6 (List.mem_of_getElem? (i := 112) (by decide +kernel)) (by decide +kernel)
def gwL_total : List Cond := (Jvm.Cond.codeWith ({ cls := "TradeLineLaw", name := "total", desc := "(LTradeLine;IIZI[J)I" } : Jvm.MethodName) method_31_code (7 : Nat) (Option.some Jvm.ClassFile.FieldType.int) [((0 : Nat), (14 : Nat), (17 : Nat), (23 : Nat)), ((0 : Nat), (14 : Nat), (21 : Nat), (25 : Nat))]) :: GT
