theorem dL_connect_0 : decode cL_connect 0 = .ok (.aload_n 0, 1) := by decide +kernel
theorem dL_connect_1 : decode cL_connect 1 = .ok (.iload_n 1, 1) := by decide +kernel
theorem dL_connect_2 : decode cL_connect 2 = .ok (.invokevirtual 8, 3) := by decide +kernel
theorem dL_connect_5 : decode cL_connect 5 = .ok (.goto 8, 3) := by decide +kernel
theorem dL_connect_8 : decode cL_connect 8 = .ok (.astore_n 2, 1) := by decide +kernel
theorem dL_connect_9 : decode cL_connect 9 = .ok (.sipush (-7300), 3) := by decide +kernel
theorem dL_connect_12 : decode cL_connect 12 = .ok (.ireturn, 1) := by decide +kernel
theorem dL_connect_13 : decode cL_connect 13 = .ok (.iconst 0, 1) := by decide +kernel
theorem dL_connect_14 : decode cL_connect 14 = .ok (.ireturn, 1) := by decide +kernel
theorem dL_cut_0 : decode cL_cut 0 = .ok (.aload_n 0, 1) := by decide +kernel
theorem dL_cut_1 : decode cL_cut 1 = .ok (.invokevirtual 16, 3) := by decide +kernel
theorem dL_cut_4 : decode cL_cut 4 = .ok (.istore_n 1, 1) := by decide +kernel
theorem dL_cut_5 : decode cL_cut 5 = .ok (.goto 8, 3) := by decide +kernel
theorem dL_cut_8 : decode cL_cut 8 = .ok (.astore_n 2, 1) := by decide +kernel
theorem dL_cut_9 : decode cL_cut 9 = .ok (.sipush (-7300), 3) := by decide +kernel
theorem dL_cut_12 : decode cL_cut 12 = .ok (.ireturn, 1) := by decide +kernel
theorem dL_cut_13 : decode cL_cut 13 = .ok (.iload_n 1, 1) := by decide +kernel
theorem dL_cut_14 : decode cL_cut 14 = .ok (.ireturn, 1) := by decide +kernel
theorem dL_come_0 : decode cL_come 0 = .ok (.aload_n 0, 1) := by decide +kernel
theorem dL_come_1 : decode cL_come 1 = .ok (.iload_n 1, 1) := by decide +kernel
theorem dL_come_2 : decode cL_come 2 = .ok (.iload_n 2, 1) := by decide +kernel
theorem dL_come_3 : decode cL_come 3 = .ok (.invokevirtual 20, 3) := by decide +kernel
theorem dL_come_6 : decode cL_come 6 = .ok (.istore_n 3, 1) := by decide +kernel
theorem dL_come_7 : decode cL_come 7 = .ok (.goto 15, 3) := by decide +kernel
theorem dL_come_10 : decode cL_come 10 = .ok (.astore 4, 2) := by decide +kernel
theorem dL_come_12 : decode cL_come 12 = .ok (.sipush (-7100), 3) := by decide +kernel
theorem dL_come_15 : decode cL_come 15 = .ok (.ireturn, 1) := by decide +kernel
theorem dL_come_16 : decode cL_come 16 = .ok (.astore 4, 2) := by decide +kernel
theorem dL_come_18 : decode cL_come 18 = .ok (.sipush (-7200), 3) := by decide +kernel
theorem dL_come_21 : decode cL_come 21 = .ok (.ireturn, 1) := by decide +kernel
theorem dL_come_22 : decode cL_come 22 = .ok (.iload_n 3, 1) := by decide +kernel
theorem dL_come_23 : decode cL_come 23 = .ok (.ireturn, 1) := by decide +kernel
theorem dL_garble_0 : decode cL_garble 0 = .ok (.aload_n 0, 1) := by decide +kernel
theorem dL_garble_1 : decode cL_garble 1 = .ok (.iload_n 1, 1) := by decide +kernel
theorem dL_garble_2 : decode cL_garble 2 = .ok (.iload_n 2, 1) := by decide +kernel
theorem dL_garble_3 : decode cL_garble 3 = .ok (.invokevirtual 28, 3) := by decide +kernel
theorem dL_garble_6 : decode cL_garble 6 = .ok (.istore_n 3, 1) := by decide +kernel
theorem dL_garble_7 : decode cL_garble 7 = .ok (.goto 9, 3) := by decide +kernel
theorem dL_garble_10 : decode cL_garble 10 = .ok (.astore 4, 2) := by decide +kernel
theorem dL_garble_12 : decode cL_garble 12 = .ok (.sipush (-7100), 3) := by decide +kernel
theorem dL_garble_15 : decode cL_garble 15 = .ok (.ireturn, 1) := by decide +kernel
theorem dL_garble_16 : decode cL_garble 16 = .ok (.iload_n 3, 1) := by decide +kernel
theorem dL_garble_17 : decode cL_garble 17 = .ok (.ireturn, 1) := by decide +kernel
theorem dL_pass_0 : decode cL_pass 0 = .ok (.aload_n 0, 1) := by decide +kernel
theorem dL_pass_1 : decode cL_pass 1 = .ok (.iload_n 1, 1) := by decide +kernel
theorem dL_pass_2 : decode cL_pass 2 = .ok (.invokevirtual 31, 3) := by decide +kernel
theorem dL_pass_5 : decode cL_pass 5 = .ok (.istore_n 2, 1) := by decide +kernel
theorem dL_pass_6 : decode cL_pass 6 = .ok (.goto 8, 3) := by decide +kernel
theorem dL_pass_9 : decode cL_pass 9 = .ok (.astore_n 3, 1) := by decide +kernel
theorem dL_pass_10 : decode cL_pass 10 = .ok (.sipush (-7200), 3) := by decide +kernel
theorem dL_pass_13 : decode cL_pass 13 = .ok (.ireturn, 1) := by decide +kernel
theorem dL_pass_14 : decode cL_pass 14 = .ok (.iload_n 2, 1) := by decide +kernel
theorem dL_pass_15 : decode cL_pass 15 = .ok (.ireturn, 1) := by decide +kernel
theorem dL_isOn_0 : decode cL_isOn 0 = .ok (.aload_n 0, 1) := by decide +kernel
theorem dL_isOn_1 : decode cL_isOn 1 = .ok (.iload_n 1, 1) := by decide +kernel
theorem dL_isOn_2 : decode cL_isOn 2 = .ok (.invokevirtual 35, 3) := by decide +kernel
theorem dL_isOn_5 : decode cL_isOn 5 = .ok (.istore_n 2, 1) := by decide +kernel
theorem dL_isOn_6 : decode cL_isOn 6 = .ok (.goto 8, 3) := by decide +kernel
theorem dL_isOn_9 : decode cL_isOn 9 = .ok (.astore_n 3, 1) := by decide +kernel
theorem dL_isOn_10 : decode cL_isOn 10 = .ok (.sipush (-7100), 3) := by decide +kernel
theorem dL_isOn_13 : decode cL_isOn 13 = .ok (.ireturn, 1) := by decide +kernel
theorem dL_isOn_14 : decode cL_isOn 14 = .ok (.iload_n 2, 1) := by decide +kernel
theorem dL_isOn_15 : decode cL_isOn 15 = .ok (.ifCond .eq 7, 3) := by decide +kernel
theorem dL_isOn_18 : decode cL_isOn 18 = .ok (.iconst 1, 1) := by decide +kernel
theorem dL_isOn_19 : decode cL_isOn 19 = .ok (.goto 4, 3) := by decide +kernel
theorem dL_isOn_22 : decode cL_isOn 22 = .ok (.iconst 0, 1) := by decide +kernel
theorem dL_isOn_23 : decode cL_isOn 23 = .ok (.ireturn, 1) := by decide +kernel
theorem dL_onWay_0 : decode cL_onWay 0 = .ok (.aload_n 0, 1) := by decide +kernel
theorem dL_onWay_1 : decode cL_onWay 1 = .ok (.iload_n 1, 1) := by decide +kernel
theorem dL_onWay_2 : decode cL_onWay 2 = .ok (.invokevirtual 39, 3) := by decide +kernel
theorem dL_onWay_5 : decode cL_onWay 5 = .ok (.istore_n 2, 1) := by decide +kernel
theorem dL_onWay_6 : decode cL_onWay 6 = .ok (.goto 8, 3) := by decide +kernel
theorem dL_onWay_9 : decode cL_onWay 9 = .ok (.astore_n 3, 1) := by decide +kernel
theorem dL_onWay_10 : decode cL_onWay 10 = .ok (.sipush (-7100), 3) := by decide +kernel
theorem dL_onWay_13 : decode cL_onWay 13 = .ok (.ireturn, 1) := by decide +kernel
theorem dL_onWay_14 : decode cL_onWay 14 = .ok (.iload_n 2, 1) := by decide +kernel
theorem dL_onWay_15 : decode cL_onWay 15 = .ok (.ireturn, 1) := by decide +kernel
theorem dL_sent_0 : decode cL_sent 0 = .ok (.aload_n 0, 1) := by decide +kernel
theorem dL_sent_1 : decode cL_sent 1 = .ok (.iload_n 1, 1) := by decide +kernel
theorem dL_sent_2 : decode cL_sent 2 = .ok (.invokevirtual 42, 3) := by decide +kernel
theorem dL_sent_5 : decode cL_sent 5 = .ok (.istore_n 2, 1) := by decide +kernel
theorem dL_sent_6 : decode cL_sent 6 = .ok (.goto 8, 3) := by decide +kernel
theorem dL_sent_9 : decode cL_sent 9 = .ok (.astore_n 3, 1) := by decide +kernel
theorem dL_sent_10 : decode cL_sent 10 = .ok (.sipush (-7100), 3) := by decide +kernel
theorem dL_sent_13 : decode cL_sent 13 = .ok (.ireturn, 1) := by decide +kernel
theorem dL_sent_14 : decode cL_sent 14 = .ok (.iload_n 2, 1) := by decide +kernel
theorem dL_sent_15 : decode cL_sent 15 = .ok (.ireturn, 1) := by decide +kernel
theorem dL_expected_0 : decode cL_expected 0 = .ok (.aload_n 0, 1) := by decide +kernel
theorem dL_expected_1 : decode cL_expected 1 = .ok (.iload_n 1, 1) := by decide +kernel
theorem dL_expected_2 : decode cL_expected 2 = .ok (.invokevirtual 45, 3) := by decide +kernel
theorem dL_expected_5 : decode cL_expected 5 = .ok (.istore_n 2, 1) := by decide +kernel
theorem dL_expected_6 : decode cL_expected 6 = .ok (.goto 8, 3) := by decide +kernel
theorem dL_expected_9 : decode cL_expected 9 = .ok (.astore_n 3, 1) := by decide +kernel
theorem dL_expected_10 : decode cL_expected 10 = .ok (.sipush (-7100), 3) := by decide +kernel
theorem dL_expected_13 : decode cL_expected 13 = .ok (.ireturn, 1) := by decide +kernel
theorem dL_expected_14 : decode cL_expected 14 = .ok (.iload_n 2, 1) := by decide +kernel
theorem dL_expected_15 : decode cL_expected 15 = .ok (.ireturn, 1) := by decide +kernel
theorem dL_held_0 : decode cL_held 0 = .ok (.aload_n 0, 1) := by decide +kernel
theorem dL_held_1 : decode cL_held 1 = .ok (.iload_n 1, 1) := by decide +kernel
theorem dL_held_2 : decode cL_held 2 = .ok (.invokevirtual 48, 3) := by decide +kernel
theorem dL_held_5 : decode cL_held 5 = .ok (.istore_n 2, 1) := by decide +kernel
theorem dL_held_6 : decode cL_held 6 = .ok (.goto 8, 3) := by decide +kernel
theorem dL_held_9 : decode cL_held 9 = .ok (.astore_n 3, 1) := by decide +kernel
theorem dL_held_10 : decode cL_held 10 = .ok (.sipush (-7100), 3) := by decide +kernel
theorem dL_held_13 : decode cL_held 13 = .ok (.ireturn, 1) := by decide +kernel
theorem dL_held_14 : decode cL_held 14 = .ok (.iload_n 2, 1) := by decide +kernel
theorem dL_held_15 : decode cL_held 15 = .ok (.ireturn, 1) := by decide +kernel
theorem dL_fields_0 : decode cL_fields 0 = .ok (.aload_n 0, 1) := by decide +kernel
theorem dL_fields_1 : decode cL_fields 1 = .ok (.iload_n 1, 1) := by decide +kernel
theorem dL_fields_2 : decode cL_fields 2 = .ok (.iload_n 2, 1) := by decide +kernel
theorem dL_fields_3 : decode cL_fields 3 = .ok (.invokevirtual 51, 3) := by decide +kernel
theorem dL_fields_6 : decode cL_fields 6 = .ok (.istore_n 3, 1) := by decide +kernel
theorem dL_fields_7 : decode cL_fields 7 = .ok (.goto 9, 3) := by decide +kernel
theorem dL_fields_10 : decode cL_fields 10 = .ok (.astore 4, 2) := by decide +kernel
theorem dL_fields_12 : decode cL_fields 12 = .ok (.sipush (-7100), 3) := by decide +kernel
theorem dL_fields_15 : decode cL_fields 15 = .ok (.ireturn, 1) := by decide +kernel
theorem dL_fields_16 : decode cL_fields 16 = .ok (.iload_n 3, 1) := by decide +kernel
theorem dL_fields_17 : decode cL_fields 17 = .ok (.ireturn, 1) := by decide +kernel
theorem dL_tagAt_0 : decode cL_tagAt 0 = .ok (.aload_n 0, 1) := by decide +kernel
theorem dL_tagAt_1 : decode cL_tagAt 1 = .ok (.iload_n 1, 1) := by decide +kernel
theorem dL_tagAt_2 : decode cL_tagAt 2 = .ok (.iload_n 2, 1) := by decide +kernel
theorem dL_tagAt_3 : decode cL_tagAt 3 = .ok (.iload_n 3, 1) := by decide +kernel
theorem dL_tagAt_4 : decode cL_tagAt 4 = .ok (.invokevirtual 54, 3) := by decide +kernel
theorem dL_tagAt_7 : decode cL_tagAt 7 = .ok (.istore 4, 2) := by decide +kernel
theorem dL_tagAt_9 : decode cL_tagAt 9 = .ok (.goto 9, 3) := by decide +kernel
theorem dL_tagAt_12 : decode cL_tagAt 12 = .ok (.astore 5, 2) := by decide +kernel
theorem dL_tagAt_14 : decode cL_tagAt 14 = .ok (.sipush (-7100), 3) := by decide +kernel
theorem dL_tagAt_17 : decode cL_tagAt 17 = .ok (.ireturn, 1) := by decide +kernel
theorem dL_tagAt_18 : decode cL_tagAt 18 = .ok (.iload 4, 2) := by decide +kernel
theorem dL_tagAt_20 : decode cL_tagAt 20 = .ok (.ireturn, 1) := by decide +kernel
theorem dL_valueAt_0 : decode cL_valueAt 0 = .ok (.aload_n 0, 1) := by decide +kernel
theorem dL_valueAt_1 : decode cL_valueAt 1 = .ok (.iload_n 1, 1) := by decide +kernel
theorem dL_valueAt_2 : decode cL_valueAt 2 = .ok (.iload_n 2, 1) := by decide +kernel
theorem dL_valueAt_3 : decode cL_valueAt 3 = .ok (.iload_n 3, 1) := by decide +kernel
theorem dL_valueAt_4 : decode cL_valueAt 4 = .ok (.invokevirtual 58, 3) := by decide +kernel
theorem dL_valueAt_7 : decode cL_valueAt 7 = .ok (.istore 4, 2) := by decide +kernel
theorem dL_valueAt_9 : decode cL_valueAt 9 = .ok (.goto 9, 3) := by decide +kernel
theorem dL_valueAt_12 : decode cL_valueAt 12 = .ok (.astore 5, 2) := by decide +kernel
theorem dL_valueAt_14 : decode cL_valueAt 14 = .ok (.sipush (-7100), 3) := by decide +kernel
theorem dL_valueAt_17 : decode cL_valueAt 17 = .ok (.ireturn, 1) := by decide +kernel
theorem dL_valueAt_18 : decode cL_valueAt 18 = .ok (.iload 4, 2) := by decide +kernel
theorem dL_valueAt_20 : decode cL_valueAt 20 = .ok (.ireturn, 1) := by decide +kernel
theorem dL_order_0 : decode cL_order 0 = .ok (.aload_n 0, 1) := by decide +kernel
theorem dL_order_1 : decode cL_order 1 = .ok (.iload_n 1, 1) := by decide +kernel
theorem dL_order_2 : decode cL_order 2 = .ok (.iload_n 2, 1) := by decide +kernel
theorem dL_order_3 : decode cL_order 3 = .ok (.iload_n 3, 1) := by decide +kernel
theorem dL_order_4 : decode cL_order 4 = .ok (.invokevirtual 61, 3) := by decide +kernel
theorem dL_order_7 : decode cL_order 7 = .ok (.istore 4, 2) := by decide +kernel
theorem dL_order_9 : decode cL_order 9 = .ok (.goto 15, 3) := by decide +kernel
theorem dL_order_12 : decode cL_order 12 = .ok (.astore 5, 2) := by decide +kernel
theorem dL_order_14 : decode cL_order 14 = .ok (.sipush (-7200), 3) := by decide +kernel
theorem dL_order_17 : decode cL_order 17 = .ok (.ireturn, 1) := by decide +kernel
theorem dL_order_18 : decode cL_order 18 = .ok (.astore 5, 2) := by decide +kernel
theorem dL_order_20 : decode cL_order 20 = .ok (.sipush (-7300), 3) := by decide +kernel
theorem dL_order_23 : decode cL_order 23 = .ok (.ireturn, 1) := by decide +kernel
theorem dL_order_24 : decode cL_order 24 = .ok (.iload 4, 2) := by decide +kernel
theorem dL_order_26 : decode cL_order 26 = .ok (.ireturn, 1) := by decide +kernel
theorem dL_cancel_0 : decode cL_cancel 0 = .ok (.aload_n 0, 1) := by decide +kernel
theorem dL_cancel_1 : decode cL_cancel 1 = .ok (.iload_n 1, 1) := by decide +kernel
theorem dL_cancel_2 : decode cL_cancel 2 = .ok (.invokevirtual 65, 3) := by decide +kernel
theorem dL_cancel_5 : decode cL_cancel 5 = .ok (.istore_n 2, 1) := by decide +kernel
theorem dL_cancel_6 : decode cL_cancel 6 = .ok (.goto 13, 3) := by decide +kernel
theorem dL_cancel_9 : decode cL_cancel 9 = .ok (.astore_n 3, 1) := by decide +kernel
theorem dL_cancel_10 : decode cL_cancel 10 = .ok (.sipush (-7100), 3) := by decide +kernel
theorem dL_cancel_13 : decode cL_cancel 13 = .ok (.ireturn, 1) := by decide +kernel
theorem dL_cancel_14 : decode cL_cancel 14 = .ok (.astore_n 3, 1) := by decide +kernel
theorem dL_cancel_15 : decode cL_cancel 15 = .ok (.sipush (-7300), 3) := by decide +kernel
theorem dL_cancel_18 : decode cL_cancel 18 = .ok (.ireturn, 1) := by decide +kernel
theorem dL_cancel_19 : decode cL_cancel 19 = .ok (.iload_n 2, 1) := by decide +kernel
theorem dL_cancel_20 : decode cL_cancel 20 = .ok (.ireturn, 1) := by decide +kernel
theorem dL_replace_0 : decode cL_replace 0 = .ok (.aload_n 0, 1) := by decide +kernel
theorem dL_replace_1 : decode cL_replace 1 = .ok (.iload_n 1, 1) := by decide +kernel
theorem dL_replace_2 : decode cL_replace 2 = .ok (.iload_n 2, 1) := by decide +kernel
theorem dL_replace_3 : decode cL_replace 3 = .ok (.iload_n 3, 1) := by decide +kernel
theorem dL_replace_4 : decode cL_replace 4 = .ok (.invokevirtual 68, 3) := by decide +kernel
theorem dL_replace_7 : decode cL_replace 7 = .ok (.istore 4, 2) := by decide +kernel
theorem dL_replace_9 : decode cL_replace 9 = .ok (.goto 21, 3) := by decide +kernel
theorem dL_replace_12 : decode cL_replace 12 = .ok (.astore 5, 2) := by decide +kernel
theorem dL_replace_14 : decode cL_replace 14 = .ok (.sipush (-7100), 3) := by decide +kernel
theorem dL_replace_17 : decode cL_replace 17 = .ok (.ireturn, 1) := by decide +kernel
theorem dL_replace_18 : decode cL_replace 18 = .ok (.astore 5, 2) := by decide +kernel
theorem dL_replace_20 : decode cL_replace 20 = .ok (.sipush (-7200), 3) := by decide +kernel
theorem dL_replace_23 : decode cL_replace 23 = .ok (.ireturn, 1) := by decide +kernel
theorem dL_replace_24 : decode cL_replace 24 = .ok (.astore 5, 2) := by decide +kernel
theorem dL_replace_26 : decode cL_replace 26 = .ok (.sipush (-7300), 3) := by decide +kernel
theorem dL_replace_29 : decode cL_replace 29 = .ok (.ireturn, 1) := by decide +kernel
theorem dL_replace_30 : decode cL_replace 30 = .ok (.iload 4, 2) := by decide +kernel
theorem dL_replace_32 : decode cL_replace 32 = .ok (.ireturn, 1) := by decide +kernel
theorem dL_stateOf_0 : decode cL_stateOf 0 = .ok (.aload_n 0, 1) := by decide +kernel
theorem dL_stateOf_1 : decode cL_stateOf 1 = .ok (.iload_n 1, 1) := by decide +kernel
theorem dL_stateOf_2 : decode cL_stateOf 2 = .ok (.invokevirtual 71, 3) := by decide +kernel
theorem dL_stateOf_5 : decode cL_stateOf 5 = .ok (.istore_n 2, 1) := by decide +kernel
theorem dL_stateOf_6 : decode cL_stateOf 6 = .ok (.goto 8, 3) := by decide +kernel
theorem dL_stateOf_9 : decode cL_stateOf 9 = .ok (.astore_n 3, 1) := by decide +kernel
theorem dL_stateOf_10 : decode cL_stateOf 10 = .ok (.sipush (-7100), 3) := by decide +kernel
theorem dL_stateOf_13 : decode cL_stateOf 13 = .ok (.ireturn, 1) := by decide +kernel
theorem dL_stateOf_14 : decode cL_stateOf 14 = .ok (.iload_n 2, 1) := by decide +kernel
theorem dL_stateOf_15 : decode cL_stateOf 15 = .ok (.ireturn, 1) := by decide +kernel
theorem dL_isLeftOut_0 : decode cL_isLeftOut 0 = .ok (.aload_n 0, 1) := by decide +kernel
theorem dL_isLeftOut_1 : decode cL_isLeftOut 1 = .ok (.iload_n 1, 1) := by decide +kernel
theorem dL_isLeftOut_2 : decode cL_isLeftOut 2 = .ok (.invokevirtual 74, 3) := by decide +kernel
theorem dL_isLeftOut_5 : decode cL_isLeftOut 5 = .ok (.istore_n 2, 1) := by decide +kernel
theorem dL_isLeftOut_6 : decode cL_isLeftOut 6 = .ok (.goto 8, 3) := by decide +kernel
theorem dL_isLeftOut_9 : decode cL_isLeftOut 9 = .ok (.astore_n 3, 1) := by decide +kernel
theorem dL_isLeftOut_10 : decode cL_isLeftOut 10 = .ok (.sipush (-7100), 3) := by decide +kernel
theorem dL_isLeftOut_13 : decode cL_isLeftOut 13 = .ok (.ireturn, 1) := by decide +kernel
theorem dL_isLeftOut_14 : decode cL_isLeftOut 14 = .ok (.iload_n 2, 1) := by decide +kernel
theorem dL_isLeftOut_15 : decode cL_isLeftOut 15 = .ok (.ifCond .eq 7, 3) := by decide +kernel
theorem dL_isLeftOut_18 : decode cL_isLeftOut 18 = .ok (.iconst 1, 1) := by decide +kernel
theorem dL_isLeftOut_19 : decode cL_isLeftOut 19 = .ok (.goto 4, 3) := by decide +kernel
theorem dL_isLeftOut_22 : decode cL_isLeftOut 22 = .ok (.iconst 0, 1) := by decide +kernel
theorem dL_isLeftOut_23 : decode cL_isLeftOut 23 = .ok (.ireturn, 1) := by decide +kernel
theorem dL_underWay_0 : decode cL_underWay 0 = .ok (.aload_n 0, 1) := by decide +kernel
theorem dL_underWay_1 : decode cL_underWay 1 = .ok (.iload_n 1, 1) := by decide +kernel
theorem dL_underWay_2 : decode cL_underWay 2 = .ok (.invokevirtual 77, 3) := by decide +kernel
theorem dL_underWay_5 : decode cL_underWay 5 = .ok (.istore_n 2, 1) := by decide +kernel
theorem dL_underWay_6 : decode cL_underWay 6 = .ok (.goto 8, 3) := by decide +kernel
theorem dL_underWay_9 : decode cL_underWay 9 = .ok (.astore_n 3, 1) := by decide +kernel
theorem dL_underWay_10 : decode cL_underWay 10 = .ok (.sipush (-7100), 3) := by decide +kernel
theorem dL_underWay_13 : decode cL_underWay 13 = .ok (.ireturn, 1) := by decide +kernel
theorem dL_underWay_14 : decode cL_underWay 14 = .ok (.iload_n 2, 1) := by decide +kernel
theorem dL_underWay_15 : decode cL_underWay 15 = .ok (.ireturn, 1) := by decide +kernel
theorem dL_quote_0 : decode cL_quote 0 = .ok (.aload_n 0, 1) := by decide +kernel
theorem dL_quote_1 : decode cL_quote 1 = .ok (.iload_n 1, 1) := by decide +kernel
theorem dL_quote_2 : decode cL_quote 2 = .ok (.iload_n 2, 1) := by decide +kernel
theorem dL_quote_3 : decode cL_quote 3 = .ok (.iload_n 3, 1) := by decide +kernel
theorem dL_quote_4 : decode cL_quote 4 = .ok (.iload 4, 2) := by decide +kernel
theorem dL_quote_6 : decode cL_quote 6 = .ok (.invokevirtual 80, 3) := by decide +kernel
theorem dL_quote_9 : decode cL_quote 9 = .ok (.istore 5, 2) := by decide +kernel
theorem dL_quote_11 : decode cL_quote 11 = .ok (.goto 15, 3) := by decide +kernel
theorem dL_quote_14 : decode cL_quote 14 = .ok (.astore 6, 2) := by decide +kernel
theorem dL_quote_16 : decode cL_quote 16 = .ok (.sipush (-7100), 3) := by decide +kernel
theorem dL_quote_19 : decode cL_quote 19 = .ok (.ireturn, 1) := by decide +kernel
theorem dL_quote_20 : decode cL_quote 20 = .ok (.astore 6, 2) := by decide +kernel
theorem dL_quote_22 : decode cL_quote 22 = .ok (.sipush (-7200), 3) := by decide +kernel
theorem dL_quote_25 : decode cL_quote 25 = .ok (.ireturn, 1) := by decide +kernel
theorem dL_quote_26 : decode cL_quote 26 = .ok (.iload 5, 2) := by decide +kernel
theorem dL_quote_28 : decode cL_quote 28 = .ok (.ireturn, 1) := by decide +kernel
theorem dL_quoted_0 : decode cL_quoted 0 = .ok (.aload_n 0, 1) := by decide +kernel
theorem dL_quoted_1 : decode cL_quoted 1 = .ok (.iload_n 1, 1) := by decide +kernel
theorem dL_quoted_2 : decode cL_quoted 2 = .ok (.iload_n 2, 1) := by decide +kernel
theorem dL_quoted_3 : decode cL_quoted 3 = .ok (.invokevirtual 84, 3) := by decide +kernel
theorem dL_quoted_6 : decode cL_quoted 6 = .ok (.istore_n 3, 1) := by decide +kernel
theorem dL_quoted_7 : decode cL_quoted 7 = .ok (.goto 9, 3) := by decide +kernel
theorem dL_quoted_10 : decode cL_quoted 10 = .ok (.astore 4, 2) := by decide +kernel
theorem dL_quoted_12 : decode cL_quoted 12 = .ok (.sipush (-7100), 3) := by decide +kernel
theorem dL_quoted_15 : decode cL_quoted 15 = .ok (.ireturn, 1) := by decide +kernel
theorem dL_quoted_16 : decode cL_quoted 16 = .ok (.iload_n 3, 1) := by decide +kernel
theorem dL_quoted_17 : decode cL_quoted 17 = .ok (.ireturn, 1) := by decide +kernel
theorem dL_bust_0 : decode cL_bust 0 = .ok (.aload_n 0, 1) := by decide +kernel
theorem dL_bust_1 : decode cL_bust 1 = .ok (.iload_n 1, 1) := by decide +kernel
theorem dL_bust_2 : decode cL_bust 2 = .ok (.invokevirtual 88, 3) := by decide +kernel
theorem dL_bust_5 : decode cL_bust 5 = .ok (.istore_n 2, 1) := by decide +kernel
theorem dL_bust_6 : decode cL_bust 6 = .ok (.goto 13, 3) := by decide +kernel
theorem dL_bust_9 : decode cL_bust 9 = .ok (.astore_n 3, 1) := by decide +kernel
theorem dL_bust_10 : decode cL_bust 10 = .ok (.sipush (-7100), 3) := by decide +kernel
theorem dL_bust_13 : decode cL_bust 13 = .ok (.ireturn, 1) := by decide +kernel
theorem dL_bust_14 : decode cL_bust 14 = .ok (.astore_n 3, 1) := by decide +kernel
theorem dL_bust_15 : decode cL_bust 15 = .ok (.sipush (-7300), 3) := by decide +kernel
theorem dL_bust_18 : decode cL_bust 18 = .ok (.ireturn, 1) := by decide +kernel
theorem dL_bust_19 : decode cL_bust 19 = .ok (.iload_n 2, 1) := by decide +kernel
theorem dL_bust_20 : decode cL_bust 20 = .ok (.ireturn, 1) := by decide +kernel
theorem dL_correct_0 : decode cL_correct 0 = .ok (.aload_n 0, 1) := by decide +kernel
theorem dL_correct_1 : decode cL_correct 1 = .ok (.iload_n 1, 1) := by decide +kernel
theorem dL_correct_2 : decode cL_correct 2 = .ok (.iload_n 2, 1) := by decide +kernel
theorem dL_correct_3 : decode cL_correct 3 = .ok (.invokevirtual 91, 3) := by decide +kernel
theorem dL_correct_6 : decode cL_correct 6 = .ok (.istore_n 3, 1) := by decide +kernel
theorem dL_correct_7 : decode cL_correct 7 = .ok (.goto 21, 3) := by decide +kernel
theorem dL_correct_10 : decode cL_correct 10 = .ok (.astore 4, 2) := by decide +kernel
theorem dL_correct_12 : decode cL_correct 12 = .ok (.sipush (-7100), 3) := by decide +kernel
theorem dL_correct_15 : decode cL_correct 15 = .ok (.ireturn, 1) := by decide +kernel
theorem dL_correct_16 : decode cL_correct 16 = .ok (.astore 4, 2) := by decide +kernel
theorem dL_correct_18 : decode cL_correct 18 = .ok (.sipush (-7200), 3) := by decide +kernel
theorem dL_correct_21 : decode cL_correct 21 = .ok (.ireturn, 1) := by decide +kernel
theorem dL_correct_22 : decode cL_correct 22 = .ok (.astore 4, 2) := by decide +kernel
theorem dL_correct_24 : decode cL_correct 24 = .ok (.sipush (-7300), 3) := by decide +kernel
theorem dL_correct_27 : decode cL_correct 27 = .ok (.ireturn, 1) := by decide +kernel
theorem dL_correct_28 : decode cL_correct 28 = .ok (.iload_n 3, 1) := by decide +kernel
theorem dL_correct_29 : decode cL_correct 29 = .ok (.ireturn, 1) := by decide +kernel
theorem dL_left_0 : decode cL_left 0 = .ok (.aload_n 0, 1) := by decide +kernel
theorem dL_left_1 : decode cL_left 1 = .ok (.iload_n 1, 1) := by decide +kernel
theorem dL_left_2 : decode cL_left 2 = .ok (.iload_n 2, 1) := by decide +kernel
theorem dL_left_3 : decode cL_left 3 = .ok (.invokevirtual 94, 3) := by decide +kernel
theorem dL_left_6 : decode cL_left 6 = .ok (.istore_n 3, 1) := by decide +kernel
theorem dL_left_7 : decode cL_left 7 = .ok (.goto 9, 3) := by decide +kernel
theorem dL_left_10 : decode cL_left 10 = .ok (.astore 4, 2) := by decide +kernel
theorem dL_left_12 : decode cL_left 12 = .ok (.sipush (-7100), 3) := by decide +kernel
theorem dL_left_15 : decode cL_left 15 = .ok (.ireturn, 1) := by decide +kernel
theorem dL_left_16 : decode cL_left 16 = .ok (.iload_n 3, 1) := by decide +kernel
theorem dL_left_17 : decode cL_left 17 = .ok (.ireturn, 1) := by decide +kernel
theorem dL_done_0 : decode cL_done 0 = .ok (.aload_n 0, 1) := by decide +kernel
theorem dL_done_1 : decode cL_done 1 = .ok (.iload_n 1, 1) := by decide +kernel
theorem dL_done_2 : decode cL_done 2 = .ok (.iload_n 2, 1) := by decide +kernel
theorem dL_done_3 : decode cL_done 3 = .ok (.invokevirtual 97, 3) := by decide +kernel
theorem dL_done_6 : decode cL_done 6 = .ok (.istore_n 3, 1) := by decide +kernel
theorem dL_done_7 : decode cL_done 7 = .ok (.goto 9, 3) := by decide +kernel
theorem dL_done_10 : decode cL_done 10 = .ok (.astore 4, 2) := by decide +kernel
theorem dL_done_12 : decode cL_done 12 = .ok (.sipush (-7100), 3) := by decide +kernel
theorem dL_done_15 : decode cL_done 15 = .ok (.ireturn, 1) := by decide +kernel
theorem dL_done_16 : decode cL_done 16 = .ok (.iload_n 3, 1) := by decide +kernel
theorem dL_done_17 : decode cL_done 17 = .ok (.ireturn, 1) := by decide +kernel
theorem dL_doneByLog_0 : decode cL_doneByLog 0 = .ok (.aload_n 0, 1) := by decide +kernel
theorem dL_doneByLog_1 : decode cL_doneByLog 1 = .ok (.iload_n 1, 1) := by decide +kernel
theorem dL_doneByLog_2 : decode cL_doneByLog 2 = .ok (.iload_n 2, 1) := by decide +kernel
theorem dL_doneByLog_3 : decode cL_doneByLog 3 = .ok (.invokevirtual 100, 3) := by decide +kernel
theorem dL_doneByLog_6 : decode cL_doneByLog 6 = .ok (.istore_n 3, 1) := by decide +kernel
theorem dL_doneByLog_7 : decode cL_doneByLog 7 = .ok (.goto 9, 3) := by decide +kernel
theorem dL_doneByLog_10 : decode cL_doneByLog 10 = .ok (.astore 4, 2) := by decide +kernel
theorem dL_doneByLog_12 : decode cL_doneByLog 12 = .ok (.sipush (-7100), 3) := by decide +kernel
theorem dL_doneByLog_15 : decode cL_doneByLog 15 = .ok (.ireturn, 1) := by decide +kernel
theorem dL_doneByLog_16 : decode cL_doneByLog 16 = .ok (.iload_n 3, 1) := by decide +kernel
theorem dL_doneByLog_17 : decode cL_doneByLog 17 = .ok (.ireturn, 1) := by decide +kernel
theorem dL_out_0 : decode cL_out 0 = .ok (.aload_n 0, 1) := by decide +kernel
theorem dL_out_1 : decode cL_out 1 = .ok (.iload_n 1, 1) := by decide +kernel
theorem dL_out_2 : decode cL_out 2 = .ok (.iload_n 2, 1) := by decide +kernel
theorem dL_out_3 : decode cL_out 3 = .ok (.invokevirtual 103, 3) := by decide +kernel
theorem dL_out_6 : decode cL_out 6 = .ok (.istore_n 3, 1) := by decide +kernel
theorem dL_out_7 : decode cL_out 7 = .ok (.goto 9, 3) := by decide +kernel
theorem dL_out_10 : decode cL_out 10 = .ok (.astore 4, 2) := by decide +kernel
theorem dL_out_12 : decode cL_out 12 = .ok (.sipush (-7100), 3) := by decide +kernel
theorem dL_out_15 : decode cL_out 15 = .ok (.ireturn, 1) := by decide +kernel
theorem dL_out_16 : decode cL_out 16 = .ok (.iload_n 3, 1) := by decide +kernel
theorem dL_out_17 : decode cL_out 17 = .ok (.ireturn, 1) := by decide +kernel
theorem dL_venues_0 : decode cL_venues 0 = .ok (.aload_n 0, 1) := by decide +kernel
theorem dL_venues_1 : decode cL_venues 1 = .ok (.iload_n 1, 1) := by decide +kernel
theorem dL_venues_2 : decode cL_venues 2 = .ok (.invokevirtual 106, 3) := by decide +kernel
theorem dL_venues_5 : decode cL_venues 5 = .ok (.istore_n 2, 1) := by decide +kernel
theorem dL_venues_6 : decode cL_venues 6 = .ok (.goto 8, 3) := by decide +kernel
theorem dL_venues_9 : decode cL_venues 9 = .ok (.astore_n 3, 1) := by decide +kernel
theorem dL_venues_10 : decode cL_venues 10 = .ok (.sipush (-7100), 3) := by decide +kernel
theorem dL_venues_13 : decode cL_venues 13 = .ok (.ireturn, 1) := by decide +kernel
theorem dL_venues_14 : decode cL_venues 14 = .ok (.iload_n 2, 1) := by decide +kernel
theorem dL_venues_15 : decode cL_venues 15 = .ok (.ireturn, 1) := by decide +kernel
theorem dL_total_0 : decode cL_total 0 = .ok (.aload_n 0, 1) := by decide +kernel
theorem dL_total_1 : decode cL_total 1 = .ok (.iload_n 1, 1) := by decide +kernel
theorem dL_total_2 : decode cL_total 2 = .ok (.iload_n 2, 1) := by decide +kernel
theorem dL_total_3 : decode cL_total 3 = .ok (.iload_n 3, 1) := by decide +kernel
theorem dL_total_4 : decode cL_total 4 = .ok (.iload 4, 2) := by decide +kernel
theorem dL_total_6 : decode cL_total 6 = .ok (.invokevirtual 109, 3) := by decide +kernel
theorem dL_total_9 : decode cL_total 9 = .ok (.istore 5, 2) := by decide +kernel
theorem dL_total_11 : decode cL_total 11 = .ok (.goto 15, 3) := by decide +kernel
theorem dL_total_14 : decode cL_total 14 = .ok (.astore 6, 2) := by decide +kernel
theorem dL_total_16 : decode cL_total 16 = .ok (.sipush (-7100), 3) := by decide +kernel
theorem dL_total_19 : decode cL_total 19 = .ok (.ireturn, 1) := by decide +kernel
theorem dL_total_20 : decode cL_total 20 = .ok (.astore 6, 2) := by decide +kernel
theorem dL_total_22 : decode cL_total 22 = .ok (.sipush (-7200), 3) := by decide +kernel
theorem dL_total_25 : decode cL_total 25 = .ok (.ireturn, 1) := by decide +kernel
theorem dL_total_26 : decode cL_total 26 = .ok (.iload 5, 2) := by decide +kernel
theorem dL_total_28 : decode cL_total 28 = .ok (.ireturn, 1) := by decide +kernel
theorem gh_connect : (Jvm.Cond.codeWith ({ cls := "TradeLineLaw", name := "connect", desc := "(LTradeLine;Z)I" } : Jvm.MethodName) method_4_code (3 : Nat) (Option.some Jvm.ClassFile.FieldType.int) [((0 : Nat), (5 : Nat), (8 : Nat), (14 : Nat))]) ∈ GT := in_tables_1_1 (List.mem_of_getElem? (i := 213) (by decide +kernel)) (by decide +kernel)
def gwL_connect : List Cond := (Jvm.Cond.codeWith ({ cls := "TradeLineLaw", name := "connect", desc := "(LTradeLine;Z)I" } : Jvm.MethodName) method_4_code (3 : Nat) (Option.some Jvm.ClassFile.FieldType.int) [((0 : Nat), (5 : Nat), (8 : Nat), (14 : Nat))]) :: GT
theorem gh_cut : (Jvm.Cond.codeWith ({ cls := "TradeLineLaw", name := "cut", desc := "(LTradeLine;)I" } : Jvm.MethodName) method_5_code (3 : Nat) (Option.some Jvm.ClassFile.FieldType.int) [((0 : Nat), (5 : Nat), (8 : Nat), (14 : Nat))]) ∈ GT := in_tables_1_2 (List.mem_of_getElem? (i := 185) (by decide +kernel)) (by decide +kernel)
def gwL_cut : List Cond := (Jvm.Cond.codeWith ({ cls := "TradeLineLaw", name := "cut", desc := "(LTradeLine;)I" } : Jvm.MethodName) method_5_code (3 : Nat) (Option.some Jvm.ClassFile.FieldType.int) [((0 : Nat), (5 : Nat), (8 : Nat), (14 : Nat))]) :: GT
theorem gh_come : (Jvm.Cond.codeWith ({ cls := "TradeLineLaw", name := "come", desc := "(LTradeLine;II)I" } : Jvm.MethodName) method_6_code (5 : Nat) (Option.some Jvm.ClassFile.FieldType.int) [((0 : Nat), (7 : Nat), (10 : Nat), (24 : Nat)), ((0 : Nat), (7 : Nat), (16 : Nat), (26 : Nat))]) ∈ GT := in_tables_1_2 (List.mem_of_getElem? (i := 232) (by decide +kernel)) (by decide +kernel)
def gwL_come : List Cond := (Jvm.Cond.codeWith ({ cls := "TradeLineLaw", name := "come", desc := "(LTradeLine;II)I" } : Jvm.MethodName) method_6_code (5 : Nat) (Option.some Jvm.ClassFile.FieldType.int) [((0 : Nat), (7 : Nat), (10 : Nat), (24 : Nat)), ((0 : Nat), (7 : Nat), (16 : Nat), (26 : Nat))]) :: GT
theorem gh_garble : (Jvm.Cond.codeWith ({ cls := "TradeLineLaw", name := "garble", desc := "(LTradeLine;II)I" } : Jvm.MethodName) method_7_code (5 : Nat) (Option.some Jvm.ClassFile.FieldType.int) [((0 : Nat), (7 : Nat), (10 : Nat), (24 : Nat))]) ∈ GT := in_tables_1_5 (List.mem_of_getElem? (i := 79) (by decide +kernel)) (by decide +kernel)
def gwL_garble : List Cond := (Jvm.Cond.codeWith ({ cls := "TradeLineLaw", name := "garble", desc := "(LTradeLine;II)I" } : Jvm.MethodName) method_7_code (5 : Nat) (Option.some Jvm.ClassFile.FieldType.int) [((0 : Nat), (7 : Nat), (10 : Nat), (24 : Nat))]) :: GT
theorem gh_pass : (Jvm.Cond.codeWith ({ cls := "TradeLineLaw", name := "pass", desc := "(LTradeLine;I)I" } : Jvm.MethodName) method_8_code (4 : Nat) (Option.some Jvm.ClassFile.FieldType.int) [((0 : Nat), (6 : Nat), (9 : Nat), (26 : Nat))]) ∈ GT := in_tables_1_5 (List.mem_of_getElem? (i := 92) (by decide +kernel)) (by decide +kernel)
def gwL_pass : List Cond := (Jvm.Cond.codeWith ({ cls := "TradeLineLaw", name := "pass", desc := "(LTradeLine;I)I" } : Jvm.MethodName) method_8_code (4 : Nat) (Option.some Jvm.ClassFile.FieldType.int) [((0 : Nat), (6 : Nat), (9 : Nat), (26 : Nat))]) :: GT
theorem gh_order : (Jvm.Cond.codeWith ({ cls := "TradeLineLaw", name := "order", desc := "(LTradeLine;ZII)I" } : Jvm.MethodName) method_17_code (6 : Nat) (Option.some Jvm.ClassFile.FieldType.int) [((0 : Nat), (9 : Nat), (12 : Nat), (26 : Nat)), ((0 : Nat), (9 : Nat), (18 : Nat), (14 : Nat))]) ∈ GT := in_tables_1_5 (List.mem_of_getElem? (i := 108) (by decide +kernel)) (by decide +kernel)
def gwL_order : List Cond := (Jvm.Cond.codeWith ({ cls := "TradeLineLaw", name := "order", desc := "(LTradeLine;ZII)I" } : Jvm.MethodName) method_17_code (6 : Nat) (Option.some Jvm.ClassFile.FieldType.int) [((0 : Nat), (9 : Nat), (12 : Nat), (26 : Nat)), ((0 : Nat), (9 : Nat), (18 : Nat), (14 : Nat))]) :: GT
theorem gh_cancel : (Jvm.Cond.codeWith ({ cls := "TradeLineLaw", name := "cancel", desc := "(LTradeLine;I)I" } : Jvm.MethodName) method_18_code (4 : Nat) (Option.some Jvm.ClassFile.FieldType.int) [((0 : Nat), (6 : Nat), (9 : Nat), (24 : Nat)), ((0 : Nat), (6 : Nat), (14 : Nat), (14 : Nat))]) ∈ GT := in_tables_1_5 (List.mem_of_getElem? (i := 187) (by decide +kernel)) (by decide +kernel)
def gwL_cancel : List Cond := (Jvm.Cond.codeWith ({ cls := "TradeLineLaw", name := "cancel", desc := "(LTradeLine;I)I" } : Jvm.MethodName) method_18_code (4 : Nat) (Option.some Jvm.ClassFile.FieldType.int) [((0 : Nat), (6 : Nat), (9 : Nat), (24 : Nat)), ((0 : Nat), (6 : Nat), (14 : Nat), (14 : Nat))]) :: GT
theorem gh_replace : (Jvm.Cond.codeWith ({ cls := "TradeLineLaw", name := "replace", desc := "(LTradeLine;III)I" } : Jvm.MethodName) method_19_code (6 : Nat) (Option.some Jvm.ClassFile.FieldType.int) [((0 : Nat), (9 : Nat), (12 : Nat), (24 : Nat)), ((0 : Nat), (9 : Nat), (18 : Nat), (26 : Nat)), ((0 : Nat), (9 : Nat), (24 : Nat), (14 : Nat))]) ∈ GT := in_tables_1_5 (List.mem_of_getElem? (i := 208) (by decide +kernel)) (by decide +kernel)
def gwL_replace : List Cond := (Jvm.Cond.codeWith ({ cls := "TradeLineLaw", name := "replace", desc := "(LTradeLine;III)I" } : Jvm.MethodName) method_19_code (6 : Nat) (Option.some Jvm.ClassFile.FieldType.int) [((0 : Nat), (9 : Nat), (12 : Nat), (24 : Nat)), ((0 : Nat), (9 : Nat), (18 : Nat), (26 : Nat)), ((0 : Nat), (9 : Nat), (24 : Nat), (14 : Nat))]) :: GT
theorem gh_quote : (Jvm.Cond.codeWith ({ cls := "TradeLineLaw", name := "quote", desc := "(LTradeLine;IZII)I" } : Jvm.MethodName) method_23_code (7 : Nat) (Option.some Jvm.ClassFile.FieldType.int) [((0 : Nat), (11 : Nat), (14 : Nat), (24 : Nat)), ((0 : Nat), (11 : Nat), (20 : Nat), (26 : Nat))]) ∈ GT := in_tables_1_5 (List.mem_of_getElem? (i := 215) (by decide +kernel)) (by decide +kernel)
def gwL_quote : List Cond := (Jvm.Cond.codeWith ({ cls := "TradeLineLaw", name := "quote", desc := "(LTradeLine;IZII)I" } : Jvm.MethodName) method_23_code (7 : Nat) (Option.some Jvm.ClassFile.FieldType.int) [((0 : Nat), (11 : Nat), (14 : Nat), (24 : Nat)), ((0 : Nat), (11 : Nat), (20 : Nat), (26 : Nat))]) :: GT
theorem gh_bust : (Jvm.Cond.codeWith ({ cls := "TradeLineLaw", name := "bust", desc := "(LTradeLine;I)I" } : Jvm.MethodName) method_25_code (4 : Nat) (Option.some Jvm.ClassFile.FieldType.int) [((0 : Nat), (6 : Nat), (9 : Nat), (24 : Nat)), ((0 : Nat), (6 : Nat), (14 : Nat), (14 : Nat))]) ∈ GT := in_tables_1_5 (List.mem_of_getElem? (i := 231) (by decide +kernel)) (by decide +kernel)
def gwL_bust : List Cond := (Jvm.Cond.codeWith ({ cls := "TradeLineLaw", name := "bust", desc := "(LTradeLine;I)I" } : Jvm.MethodName) method_25_code (4 : Nat) (Option.some Jvm.ClassFile.FieldType.int) [((0 : Nat), (6 : Nat), (9 : Nat), (24 : Nat)), ((0 : Nat), (6 : Nat), (14 : Nat), (14 : Nat))]) :: GT
theorem gh_correct : (Jvm.Cond.codeWith ({ cls := "TradeLineLaw", name := "correct", desc := "(LTradeLine;II)I" } : Jvm.MethodName) method_26_code (5 : Nat) (Option.some Jvm.ClassFile.FieldType.int) [((0 : Nat), (7 : Nat), (10 : Nat), (24 : Nat)), ((0 : Nat), (7 : Nat), (16 : Nat), (26 : Nat)), ((0 : Nat), (7 : Nat), (22 : Nat), (14 : Nat))]) ∈ GT := in_tables_1_6 (List.mem_of_getElem? (i := 7) (by decide +kernel)) (by decide +kernel)
def gwL_correct : List Cond := (Jvm.Cond.codeWith ({ cls := "TradeLineLaw", name := "correct", desc := "(LTradeLine;II)I" } : Jvm.MethodName) method_26_code (5 : Nat) (Option.some Jvm.ClassFile.FieldType.int) [((0 : Nat), (7 : Nat), (10 : Nat), (24 : Nat)), ((0 : Nat), (7 : Nat), (16 : Nat), (26 : Nat)), ((0 : Nat), (7 : Nat), (22 : Nat), (14 : Nat))]) :: GT
theorem gh_isOn : (Jvm.Cond.codeWith ({ cls := "TradeLineLaw", name := "isOn", desc := "(LTradeLine;I)I" } : Jvm.MethodName) method_9_code (4 : Nat) (Option.some Jvm.ClassFile.FieldType.int) [((0 : Nat), (6 : Nat), (9 : Nat), (24 : Nat))]) ∈ GT := in_tables_1_6 (List.mem_of_getElem? (i := 19) (by decide +kernel)) (by decide +kernel)
def gwL_isOn : List Cond := (Jvm.Cond.codeWith ({ cls := "TradeLineLaw", name := "isOn", desc := "(LTradeLine;I)I" } : Jvm.MethodName) method_9_code (4 : Nat) (Option.some Jvm.ClassFile.FieldType.int) [((0 : Nat), (6 : Nat), (9 : Nat), (24 : Nat))]) :: GT
theorem gh_sent : (Jvm.Cond.codeWith ({ cls := "TradeLineLaw", name := "sent", desc := "(LTradeLine;I)I" } : Jvm.MethodName) method_11_code (4 : Nat) (Option.some Jvm.ClassFile.FieldType.int) [((0 : Nat), (6 : Nat), (9 : Nat), (24 : Nat))]) ∈ GT := in_tables_1_6 (List.mem_of_getElem? (i := 26) (by decide +kernel)) (by decide +kernel)
def gwL_sent : List Cond := (Jvm.Cond.codeWith ({ cls := "TradeLineLaw", name := "sent", desc := "(LTradeLine;I)I" } : Jvm.MethodName) method_11_code (4 : Nat) (Option.some Jvm.ClassFile.FieldType.int) [((0 : Nat), (6 : Nat), (9 : Nat), (24 : Nat))]) :: GT
theorem gh_expected : (Jvm.Cond.codeWith ({ cls := "TradeLineLaw", name := "expected", desc := "(LTradeLine;I)I" } : Jvm.MethodName) method_12_code (4 : Nat) (Option.some Jvm.ClassFile.FieldType.int) [((0 : Nat), (6 : Nat), (9 : Nat), (24 : Nat))]) ∈ GT := in_tables_1_6 (List.mem_of_getElem? (i := 33) (by decide +kernel)) (by decide +kernel)
def gwL_expected : List Cond := (Jvm.Cond.codeWith ({ cls := "TradeLineLaw", name := "expected", desc := "(LTradeLine;I)I" } : Jvm.MethodName) method_12_code (4 : Nat) (Option.some Jvm.ClassFile.FieldType.int) [((0 : Nat), (6 : Nat), (9 : Nat), (24 : Nat))]) :: GT
theorem gh_onWay : (Jvm.Cond.codeWith ({ cls := "TradeLineLaw", name := "onWay", desc := "(LTradeLine;I)I" } : Jvm.MethodName) method_10_code (4 : Nat) (Option.some Jvm.ClassFile.FieldType.int) [((0 : Nat), (6 : Nat), (9 : Nat), (24 : Nat))]) ∈ GT := in_tables_1_6 (List.mem_of_getElem? (i := 40) (by decide +kernel)) (by decide +kernel)
def gwL_onWay : List Cond := (Jvm.Cond.codeWith ({ cls := "TradeLineLaw", name := "onWay", desc := "(LTradeLine;I)I" } : Jvm.MethodName) method_10_code (4 : Nat) (Option.some Jvm.ClassFile.FieldType.int) [((0 : Nat), (6 : Nat), (9 : Nat), (24 : Nat))]) :: GT
theorem gh_held : (Jvm.Cond.codeWith ({ cls := "TradeLineLaw", name := "held", desc := "(LTradeLine;I)I" } : Jvm.MethodName) method_13_code (4 : Nat) (Option.some Jvm.ClassFile.FieldType.int) [((0 : Nat), (6 : Nat), (9 : Nat), (24 : Nat))]) ∈ GT := in_tables_1_6 (List.mem_of_getElem? (i := 47) (by decide +kernel)) (by decide +kernel)
def gwL_held : List Cond := (Jvm.Cond.codeWith ({ cls := "TradeLineLaw", name := "held", desc := "(LTradeLine;I)I" } : Jvm.MethodName) method_13_code (4 : Nat) (Option.some Jvm.ClassFile.FieldType.int) [((0 : Nat), (6 : Nat), (9 : Nat), (24 : Nat))]) :: GT
theorem gh_fields : (Jvm.Cond.codeWith ({ cls := "TradeLineLaw", name := "fields", desc := "(LTradeLine;II)I" } : Jvm.MethodName) method_14_code (5 : Nat) (Option.some Jvm.ClassFile.FieldType.int) [((0 : Nat), (7 : Nat), (10 : Nat), (24 : Nat))]) ∈ GT := in_tables_1_6 (List.mem_of_getElem? (i := 54) (by decide +kernel)) (by decide +kernel)
def gwL_fields : List Cond := (Jvm.Cond.codeWith ({ cls := "TradeLineLaw", name := "fields", desc := "(LTradeLine;II)I" } : Jvm.MethodName) method_14_code (5 : Nat) (Option.some Jvm.ClassFile.FieldType.int) [((0 : Nat), (7 : Nat), (10 : Nat), (24 : Nat))]) :: GT
theorem gh_tagAt : (Jvm.Cond.codeWith ({ cls := "TradeLineLaw", name := "tagAt", desc := "(LTradeLine;III)I" } : Jvm.MethodName) method_15_code (6 : Nat) (Option.some Jvm.ClassFile.FieldType.int) [((0 : Nat), (9 : Nat), (12 : Nat), (24 : Nat))]) ∈ GT := in_tables_1_6 (List.mem_of_getElem? (i := 73) (by decide +kernel)) (by decide +kernel)
def gwL_tagAt : List Cond := (Jvm.Cond.codeWith ({ cls := "TradeLineLaw", name := "tagAt", desc := "(LTradeLine;III)I" } : Jvm.MethodName) method_15_code (6 : Nat) (Option.some Jvm.ClassFile.FieldType.int) [((0 : Nat), (9 : Nat), (12 : Nat), (24 : Nat))]) :: GT
theorem gh_valueAt : (Jvm.Cond.codeWith ({ cls := "TradeLineLaw", name := "valueAt", desc := "(LTradeLine;III)I" } : Jvm.MethodName) method_16_code (6 : Nat) (Option.some Jvm.ClassFile.FieldType.int) [((0 : Nat), (9 : Nat), (12 : Nat), (24 : Nat))]) ∈ GT := in_tables_1_6 (List.mem_of_getElem? (i := 86) (by decide +kernel)) (by decide +kernel)
def gwL_valueAt : List Cond := (Jvm.Cond.codeWith ({ cls := "TradeLineLaw", name := "valueAt", desc := "(LTradeLine;III)I" } : Jvm.MethodName) method_16_code (6 : Nat) (Option.some Jvm.ClassFile.FieldType.int) [((0 : Nat), (9 : Nat), (12 : Nat), (24 : Nat))]) :: GT
theorem gh_stateOf : (Jvm.Cond.codeWith ({ cls := "TradeLineLaw", name := "stateOf", desc := "(LTradeLine;I)I" } : Jvm.MethodName) method_20_code (4 : Nat) (Option.some Jvm.ClassFile.FieldType.int) [((0 : Nat), (6 : Nat), (9 : Nat), (24 : Nat))]) ∈ GT := in_tables_1_6 (List.mem_of_getElem? (i := 94) (by decide +kernel)) (by decide +kernel)
def gwL_stateOf : List Cond := (Jvm.Cond.codeWith ({ cls := "TradeLineLaw", name := "stateOf", desc := "(LTradeLine;I)I" } : Jvm.MethodName) method_20_code (4 : Nat) (Option.some Jvm.ClassFile.FieldType.int) [((0 : Nat), (6 : Nat), (9 : Nat), (24 : Nat))]) :: GT
theorem gh_isLeftOut : (Jvm.Cond.codeWith ({ cls := "TradeLineLaw", name := "isLeftOut", desc := "(LTradeLine;I)I" } : Jvm.MethodName) method_21_code (4 : Nat) (Option.some Jvm.ClassFile.FieldType.int) [((0 : Nat), (6 : Nat), (9 : Nat), (24 : Nat))]) ∈ GT := in_tables_1_6 (List.mem_of_getElem? (i := 101) (by decide +kernel)) (by decide +kernel)
def gwL_isLeftOut : List Cond := (Jvm.Cond.codeWith ({ cls := "TradeLineLaw", name := "isLeftOut", desc := "(LTradeLine;I)I" } : Jvm.MethodName) method_21_code (4 : Nat) (Option.some Jvm.ClassFile.FieldType.int) [((0 : Nat), (6 : Nat), (9 : Nat), (24 : Nat))]) :: GT
theorem gh_underWay : (Jvm.Cond.codeWith ({ cls := "TradeLineLaw", name := "underWay", desc := "(LTradeLine;I)I" } : Jvm.MethodName) method_22_code (4 : Nat) (Option.some Jvm.ClassFile.FieldType.int) [((0 : Nat), (6 : Nat), (9 : Nat), (24 : Nat))]) ∈ GT := in_tables_1_6 (List.mem_of_getElem? (i := 108) (by decide +kernel)) (by decide +kernel)
def gwL_underWay : List Cond := (Jvm.Cond.codeWith ({ cls := "TradeLineLaw", name := "underWay", desc := "(LTradeLine;I)I" } : Jvm.MethodName) method_22_code (4 : Nat) (Option.some Jvm.ClassFile.FieldType.int) [((0 : Nat), (6 : Nat), (9 : Nat), (24 : Nat))]) :: GT
theorem gh_venues : (Jvm.Cond.codeWith ({ cls := "TradeLineLaw", name := "venues", desc := "(LTradeLine;I)I" } : Jvm.MethodName) method_31_code (4 : Nat) (Option.some Jvm.ClassFile.FieldType.int) [((0 : Nat), (6 : Nat), (9 : Nat), (24 : Nat))]) ∈ GT := in_tables_1_6 (List.mem_of_getElem? (i := 115) (by decide +kernel)) (by decide +kernel)
def gwL_venues : List Cond := (Jvm.Cond.codeWith ({ cls := "TradeLineLaw", name := "venues", desc := "(LTradeLine;I)I" } : Jvm.MethodName) method_31_code (4 : Nat) (Option.some Jvm.ClassFile.FieldType.int) [((0 : Nat), (6 : Nat), (9 : Nat), (24 : Nat))]) :: GT
theorem gh_left : (Jvm.Cond.codeWith ({ cls := "TradeLineLaw", name := "left", desc := "(LTradeLine;II)I" } : Jvm.MethodName) method_27_code (5 : Nat) (Option.some Jvm.ClassFile.FieldType.int) [((0 : Nat), (7 : Nat), (10 : Nat), (24 : Nat))]) ∈ GT := in_tables_1_6 (List.mem_of_getElem? (i := 126) (by decide +kernel)) (by decide +kernel)
def gwL_left : List Cond := (Jvm.Cond.codeWith ({ cls := "TradeLineLaw", name := "left", desc := "(LTradeLine;II)I" } : Jvm.MethodName) method_27_code (5 : Nat) (Option.some Jvm.ClassFile.FieldType.int) [((0 : Nat), (7 : Nat), (10 : Nat), (24 : Nat))]) :: GT
theorem gh_done : (Jvm.Cond.codeWith ({ cls := "TradeLineLaw", name := "done", desc := "(LTradeLine;II)I" } : Jvm.MethodName) method_28_code (5 : Nat) (Option.some Jvm.ClassFile.FieldType.int) [((0 : Nat), (7 : Nat), (10 : Nat), (24 : Nat))]) ∈ GT := in_tables_1_6 (List.mem_of_getElem? (i := 145) (by decide +kernel)) (by decide +kernel)
def gwL_done : List Cond := (Jvm.Cond.codeWith ({ cls := "TradeLineLaw", name := "done", desc := "(LTradeLine;II)I" } : Jvm.MethodName) method_28_code (5 : Nat) (Option.some Jvm.ClassFile.FieldType.int) [((0 : Nat), (7 : Nat), (10 : Nat), (24 : Nat))]) :: GT
theorem gh_doneByLog : (Jvm.Cond.codeWith ({ cls := "TradeLineLaw", name := "doneByLog", desc := "(LTradeLine;II)I" } : Jvm.MethodName) method_29_code (5 : Nat) (Option.some Jvm.ClassFile.FieldType.int) [((0 : Nat), (7 : Nat), (10 : Nat), (24 : Nat))]) ∈ GT := in_tables_1_6 (List.mem_of_getElem? (i := 153) (by decide +kernel)) (by decide +kernel)
def gwL_doneByLog : List Cond := (Jvm.Cond.codeWith ({ cls := "TradeLineLaw", name := "doneByLog", desc := "(LTradeLine;II)I" } : Jvm.MethodName) method_29_code (5 : Nat) (Option.some Jvm.ClassFile.FieldType.int) [((0 : Nat), (7 : Nat), (10 : Nat), (24 : Nat))]) :: GT
theorem gh_out : (Jvm.Cond.codeWith ({ cls := "TradeLineLaw", name := "out", desc := "(LTradeLine;II)I" } : Jvm.MethodName) method_30_code (5 : Nat) (Option.some Jvm.ClassFile.FieldType.int) [((0 : Nat), (7 : Nat), (10 : Nat), (24 : Nat))]) ∈ GT := in_tables_1_6 (List.mem_of_getElem? (i := 164) (by decide +kernel)) (by decide +kernel)
def gwL_out : List Cond := (Jvm.Cond.codeWith ({ cls := "TradeLineLaw", name := "out", desc := "(LTradeLine;II)I" } : Jvm.MethodName) method_30_code (5 : Nat) (Option.some Jvm.ClassFile.FieldType.int) [((0 : Nat), (7 : Nat), (10 : Nat), (24 : Nat))]) :: GT
theorem gh_quoted : (Jvm.Cond.codeWith ({ cls := "TradeLineLaw", name := "quoted", desc := "(LTradeLine;IZ)I" } : Jvm.MethodName) method_24_code (5 : Nat) (Option.some Jvm.ClassFile.FieldType.int) [((0 : Nat), (7 : Nat), (10 : Nat), (24 : Nat))]) ∈ GT := in_tables_1_6 (List.mem_of_getElem? (i := 171) (by decide +kernel)) (by decide +kernel)
def gwL_quoted : List Cond := (Jvm.Cond.codeWith ({ cls := "TradeLineLaw", name := "quoted", desc := "(LTradeLine;IZ)I" } : Jvm.MethodName) method_24_code (5 : Nat) (Option.some Jvm.ClassFile.FieldType.int) [((0 : Nat), (7 : Nat), (10 : Nat), (24 : Nat))]) :: GT
theorem gh_total : (Jvm.Cond.codeWith ({ cls := "TradeLineLaw", name := "total", desc := "(LTradeLine;IIZI)I" } : Jvm.MethodName) method_32_code (7 : Nat) (Option.some Jvm.ClassFile.FieldType.int) [((0 : Nat), (11 : Nat), (14 : Nat), (24 : Nat)), ((0 : Nat), (11 : Nat), (20 : Nat), (26 : Nat))]) ∈ GT := in_tables_1_6 (List.mem_of_getElem? (i := 178) (by decide +kernel)) (by decide +kernel)
def gwL_total : List Cond := (Jvm.Cond.codeWith ({ cls := "TradeLineLaw", name := "total", desc := "(LTradeLine;IIZI)I" } : Jvm.MethodName) method_32_code (7 : Nat) (Option.some Jvm.ClassFile.FieldType.int) [((0 : Nat), (11 : Nat), (14 : Nat), (24 : Nat)), ((0 : Nat), (11 : Nat), (20 : Nat), (26 : Nat))]) :: GT
