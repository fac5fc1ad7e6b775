theorem dX5_at_0 : decode cX5_at 0 = .ok (.aload_n 0, 1) := by decide +kernel
theorem dX5_at_1 : decode cX5_at 1 = .ok (.ifnull 19, 3) := by decide +kernel
theorem dX5_at_4 : decode cX5_at 4 = .ok (.iload_n 1, 1) := by decide +kernel
theorem dX5_at_5 : decode cX5_at 5 = .ok (.ifCond .lt 15, 3) := by decide +kernel
theorem dX5_at_8 : decode cX5_at 8 = .ok (.iload_n 1, 1) := by decide +kernel
theorem dX5_at_9 : decode cX5_at 9 = .ok (.aload_n 0, 1) := by decide +kernel
theorem dX5_at_10 : decode cX5_at 10 = .ok (.arraylength, 1) := by decide +kernel
theorem dX5_at_11 : decode cX5_at 11 = .ok (.if_icmp .ge 9, 3) := by decide +kernel
theorem dX5_at_14 : decode cX5_at 14 = .ok (.aload_n 0, 1) := by decide +kernel
theorem dX5_at_15 : decode cX5_at 15 = .ok (.iload_n 1, 1) := by decide +kernel
theorem dX5_at_16 : decode cX5_at 16 = .ok (.iaload, 1) := by decide +kernel
theorem dX5_at_17 : decode cX5_at 17 = .ok (.goto 4, 3) := by decide +kernel
theorem dX5_at_20 : decode cX5_at 20 = .ok (.iconst 0, 1) := by decide +kernel
theorem dX5_at_21 : decode cX5_at 21 = .ok (.ireturn, 1) := by decide +kernel
theorem dX5_at__0 : decode cX5_at_ 0 = .ok (.aload_n 0, 1) := by decide +kernel
theorem dX5_at__1 : decode cX5_at_ 1 = .ok (.ifnull 19, 3) := by decide +kernel
theorem dX5_at__4 : decode cX5_at_ 4 = .ok (.iload_n 1, 1) := by decide +kernel
theorem dX5_at__5 : decode cX5_at_ 5 = .ok (.ifCond .lt 15, 3) := by decide +kernel
theorem dX5_at__8 : decode cX5_at_ 8 = .ok (.iload_n 1, 1) := by decide +kernel
theorem dX5_at__9 : decode cX5_at_ 9 = .ok (.aload_n 0, 1) := by decide +kernel
theorem dX5_at__10 : decode cX5_at_ 10 = .ok (.arraylength, 1) := by decide +kernel
theorem dX5_at__11 : decode cX5_at_ 11 = .ok (.if_icmp .ge 9, 3) := by decide +kernel
theorem dX5_at__14 : decode cX5_at_ 14 = .ok (.aload_n 0, 1) := by decide +kernel
theorem dX5_at__15 : decode cX5_at_ 15 = .ok (.iload_n 1, 1) := by decide +kernel
theorem dX5_at__16 : decode cX5_at_ 16 = .ok (.aaload, 1) := by decide +kernel
theorem dX5_at__17 : decode cX5_at_ 17 = .ok (.goto 4, 3) := by decide +kernel
theorem dX5_at__20 : decode cX5_at_ 20 = .ok (.aconst_null, 1) := by decide +kernel
theorem dX5_at__21 : decode cX5_at_ 21 = .ok (.astore_n 3, 1) := by decide +kernel
theorem dX5_at__22 : decode cX5_at_ 22 = .ok (.aload_n 3, 1) := by decide +kernel
theorem dX5_at__23 : decode cX5_at_ 23 = .ok (.ifnull 19, 3) := by decide +kernel
theorem dX5_at__26 : decode cX5_at_ 26 = .ok (.iload_n 2, 1) := by decide +kernel
theorem dX5_at__27 : decode cX5_at_ 27 = .ok (.ifCond .lt 15, 3) := by decide +kernel
theorem dX5_at__30 : decode cX5_at_ 30 = .ok (.iload_n 2, 1) := by decide +kernel
theorem dX5_at__31 : decode cX5_at_ 31 = .ok (.aload_n 3, 1) := by decide +kernel
theorem dX5_at__32 : decode cX5_at_ 32 = .ok (.arraylength, 1) := by decide +kernel
theorem dX5_at__33 : decode cX5_at_ 33 = .ok (.if_icmp .ge 9, 3) := by decide +kernel
theorem dX5_at__36 : decode cX5_at_ 36 = .ok (.aload_n 3, 1) := by decide +kernel
theorem dX5_at__37 : decode cX5_at_ 37 = .ok (.iload_n 2, 1) := by decide +kernel
theorem dX5_at__38 : decode cX5_at_ 38 = .ok (.iaload, 1) := by decide +kernel
theorem dX5_at__39 : decode cX5_at_ 39 = .ok (.goto 4, 3) := by decide +kernel
theorem dX5_at__42 : decode cX5_at_ 42 = .ok (.iconst 0, 1) := by decide +kernel
theorem dX5_at__43 : decode cX5_at_ 43 = .ok (.ireturn, 1) := by decide +kernel
theorem dX5_put_0 : decode cX5_put 0 = .ok (.aload_n 0, 1) := by decide +kernel
theorem dX5_put_1 : decode cX5_put 1 = .ok (.ifnull 17, 3) := by decide +kernel
theorem dX5_put_4 : decode cX5_put 4 = .ok (.iload_n 1, 1) := by decide +kernel
theorem dX5_put_5 : decode cX5_put 5 = .ok (.ifCond .lt 13, 3) := by decide +kernel
theorem dX5_put_8 : decode cX5_put 8 = .ok (.iload_n 1, 1) := by decide +kernel
theorem dX5_put_9 : decode cX5_put 9 = .ok (.aload_n 0, 1) := by decide +kernel
theorem dX5_put_10 : decode cX5_put 10 = .ok (.arraylength, 1) := by decide +kernel
theorem dX5_put_11 : decode cX5_put 11 = .ok (.if_icmp .ge 7, 3) := by decide +kernel
theorem dX5_put_14 : decode cX5_put 14 = .ok (.aload_n 0, 1) := by decide +kernel
theorem dX5_put_15 : decode cX5_put 15 = .ok (.iload_n 1, 1) := by decide +kernel
theorem dX5_put_16 : decode cX5_put 16 = .ok (.iload_n 2, 1) := by decide +kernel
theorem dX5_put_17 : decode cX5_put 17 = .ok (.iastore, 1) := by decide +kernel
theorem dX5_put_18 : decode cX5_put 18 = .ok (.return_, 1) := by decide +kernel
theorem dX5_put__0 : decode cX5_put_ 0 = .ok (.aload_n 0, 1) := by decide +kernel
theorem dX5_put__1 : decode cX5_put_ 1 = .ok (.ifnull 19, 3) := by decide +kernel
theorem dX5_put__4 : decode cX5_put_ 4 = .ok (.iload_n 1, 1) := by decide +kernel
theorem dX5_put__5 : decode cX5_put_ 5 = .ok (.ifCond .lt 15, 3) := by decide +kernel
theorem dX5_put__8 : decode cX5_put_ 8 = .ok (.iload_n 1, 1) := by decide +kernel
theorem dX5_put__9 : decode cX5_put_ 9 = .ok (.aload_n 0, 1) := by decide +kernel
theorem dX5_put__10 : decode cX5_put_ 10 = .ok (.arraylength, 1) := by decide +kernel
theorem dX5_put__11 : decode cX5_put_ 11 = .ok (.if_icmp .ge 9, 3) := by decide +kernel
theorem dX5_put__14 : decode cX5_put_ 14 = .ok (.aload_n 0, 1) := by decide +kernel
theorem dX5_put__15 : decode cX5_put_ 15 = .ok (.iload_n 1, 1) := by decide +kernel
theorem dX5_put__16 : decode cX5_put_ 16 = .ok (.aaload, 1) := by decide +kernel
theorem dX5_put__17 : decode cX5_put_ 17 = .ok (.goto 4, 3) := by decide +kernel
theorem dX5_put__20 : decode cX5_put_ 20 = .ok (.aconst_null, 1) := by decide +kernel
theorem dX5_put__21 : decode cX5_put_ 21 = .ok (.astore 4, 2) := by decide +kernel
theorem dX5_put__23 : decode cX5_put_ 23 = .ok (.aload 4, 2) := by decide +kernel
theorem dX5_put__25 : decode cX5_put_ 25 = .ok (.ifnull 19, 3) := by decide +kernel
theorem dX5_put__28 : decode cX5_put_ 28 = .ok (.iload_n 2, 1) := by decide +kernel
theorem dX5_put__29 : decode cX5_put_ 29 = .ok (.ifCond .lt 15, 3) := by decide +kernel
theorem dX5_put__32 : decode cX5_put_ 32 = .ok (.iload_n 2, 1) := by decide +kernel
theorem dX5_put__33 : decode cX5_put_ 33 = .ok (.aload 4, 2) := by decide +kernel
theorem dX5_put__35 : decode cX5_put_ 35 = .ok (.arraylength, 1) := by decide +kernel
theorem dX5_put__36 : decode cX5_put_ 36 = .ok (.if_icmp .ge 8, 3) := by decide +kernel
theorem dX5_put__39 : decode cX5_put_ 39 = .ok (.aload 4, 2) := by decide +kernel
theorem dX5_put__41 : decode cX5_put_ 41 = .ok (.iload_n 2, 1) := by decide +kernel
theorem dX5_put__42 : decode cX5_put_ 42 = .ok (.iload_n 3, 1) := by decide +kernel
theorem dX5_put__43 : decode cX5_put_ 43 = .ok (.iastore, 1) := by decide +kernel
theorem dX5_put__44 : decode cX5_put_ 44 = .ok (.return_, 1) := by decide +kernel
theorem dX3_isPath_0 : decode cX3_isPath 0 = .ok (.iconst 0, 1) := by decide +kernel
theorem dX3_isPath_1 : decode cX3_isPath 1 = .ok (.istore_n 2, 1) := by decide +kernel
theorem dX3_isPath_2 : decode cX3_isPath 2 = .ok (.iconst 2, 1) := by decide +kernel
theorem dX3_isPath_3 : decode cX3_isPath 3 = .ok (.iload_n 1, 1) := by decide +kernel
theorem dX3_isPath_4 : decode cX3_isPath 4 = .ok (.imul, 1) := by decide +kernel
theorem dX3_isPath_5 : decode cX3_isPath 5 = .ok (.iconst 1, 1) := by decide +kernel
theorem dX3_isPath_6 : decode cX3_isPath 6 = .ok (.isub, 1) := by decide +kernel
theorem dX3_isPath_7 : decode cX3_isPath 7 = .ok (.istore_n 3, 1) := by decide +kernel
theorem dX3_isPath_8 : decode cX3_isPath 8 = .ok (.iload_n 3, 1) := by decide +kernel
theorem dX3_isPath_9 : decode cX3_isPath 9 = .ok (.ifCond .lt 23, 3) := by decide +kernel
theorem dX3_isPath_12 : decode cX3_isPath 12 = .ok (.iload_n 2, 1) := by decide +kernel
theorem dX3_isPath_13 : decode cX3_isPath 13 = .ok (.iload_n 0, 1) := by decide +kernel
theorem dX3_isPath_14 : decode cX3_isPath 14 = .ok (.iload_n 3, 1) := by decide +kernel
theorem dX3_isPath_15 : decode cX3_isPath 15 = .ok (.invokestatic 9, 3) := by decide +kernel
theorem dX3_isPath_18 : decode cX3_isPath 18 = .ok (.iadd, 1) := by decide +kernel
theorem dX3_isPath_19 : decode cX3_isPath 19 = .ok (.istore_n 2, 1) := by decide +kernel
theorem dX3_isPath_20 : decode cX3_isPath 20 = .ok (.iload_n 2, 1) := by decide +kernel
theorem dX3_isPath_21 : decode cX3_isPath 21 = .ok (.ifCond .ge 5, 3) := by decide +kernel
theorem dX3_isPath_24 : decode cX3_isPath 24 = .ok (.iconst 0, 1) := by decide +kernel
theorem dX3_isPath_25 : decode cX3_isPath 25 = .ok (.ireturn, 1) := by decide +kernel
theorem dX3_isPath_26 : decode cX3_isPath 26 = .ok (.iinc 3 (-1), 3) := by decide +kernel
theorem dX3_isPath_29 : decode cX3_isPath 29 = .ok (.goto (-21), 3) := by decide +kernel
theorem dX3_isPath_32 : decode cX3_isPath 32 = .ok (.iload_n 2, 1) := by decide +kernel
theorem dX3_isPath_33 : decode cX3_isPath 33 = .ok (.ifCond .ne 7, 3) := by decide +kernel
theorem dX3_isPath_36 : decode cX3_isPath 36 = .ok (.iconst 1, 1) := by decide +kernel
theorem dX3_isPath_37 : decode cX3_isPath 37 = .ok (.goto 4, 3) := by decide +kernel
theorem dX3_isPath_40 : decode cX3_isPath 40 = .ok (.iconst 0, 1) := by decide +kernel
theorem dX3_isPath_41 : decode cX3_isPath 41 = .ok (.ireturn, 1) := by decide +kernel
theorem dX3_isUp_0 : decode cX3_isUp 0 = .ok (.iload_n 0, 1) := by decide +kernel
theorem dX3_isUp_1 : decode cX3_isUp 1 = .ok (.iload_n 1, 1) := by decide +kernel
theorem dX3_isUp_2 : decode cX3_isUp 2 = .ok (.ishr, 1) := by decide +kernel
theorem dX3_isUp_3 : decode cX3_isUp 3 = .ok (.iconst 1, 1) := by decide +kernel
theorem dX3_isUp_4 : decode cX3_isUp 4 = .ok (.iand, 1) := by decide +kernel
theorem dX3_isUp_5 : decode cX3_isUp 5 = .ok (.iconst 1, 1) := by decide +kernel
theorem dX3_isUp_6 : decode cX3_isUp 6 = .ok (.if_icmp .ne 7, 3) := by decide +kernel
theorem dX3_isUp_9 : decode cX3_isUp 9 = .ok (.iconst 1, 1) := by decide +kernel
theorem dX3_isUp_10 : decode cX3_isUp 10 = .ok (.goto 4, 3) := by decide +kernel
theorem dX3_isUp_13 : decode cX3_isUp 13 = .ok (.iconst 0, 1) := by decide +kernel
theorem dX3_isUp_14 : decode cX3_isUp 14 = .ok (.ireturn, 1) := by decide +kernel
theorem dX3_rise_0 : decode cX3_rise 0 = .ok (.iconst 2, 1) := by decide +kernel
theorem dX3_rise_1 : decode cX3_rise 1 = .ok (.iload_n 0, 1) := by decide +kernel
theorem dX3_rise_2 : decode cX3_rise 2 = .ok (.iload_n 1, 1) := by decide +kernel
theorem dX3_rise_3 : decode cX3_rise 3 = .ok (.ishr, 1) := by decide +kernel
theorem dX3_rise_4 : decode cX3_rise 4 = .ok (.iconst 1, 1) := by decide +kernel
theorem dX3_rise_5 : decode cX3_rise 5 = .ok (.iand, 1) := by decide +kernel
theorem dX3_rise_6 : decode cX3_rise 6 = .ok (.imul, 1) := by decide +kernel
theorem dX3_rise_7 : decode cX3_rise 7 = .ok (.iconst 1, 1) := by decide +kernel
theorem dX3_rise_8 : decode cX3_rise 8 = .ok (.isub, 1) := by decide +kernel
theorem dX3_rise_9 : decode cX3_rise 9 = .ok (.ireturn, 1) := by decide +kernel
theorem dX3_part_0 : decode cX3_part 0 = .ok (.iload_n 0, 1) := by decide +kernel
theorem dX3_part_1 : decode cX3_part 1 = .ok (.iload_n 1, 1) := by decide +kernel
theorem dX3_part_2 : decode cX3_part 2 = .ok (.ishr, 1) := by decide +kernel
theorem dX3_part_3 : decode cX3_part 3 = .ok (.iconst 1, 1) := by decide +kernel
theorem dX3_part_4 : decode cX3_part 4 = .ok (.iload_n 2, 1) := by decide +kernel
theorem dX3_part_5 : decode cX3_part 5 = .ok (.ishl, 1) := by decide +kernel
theorem dX3_part_6 : decode cX3_part 6 = .ok (.iconst 1, 1) := by decide +kernel
theorem dX3_part_7 : decode cX3_part 7 = .ok (.isub, 1) := by decide +kernel
theorem dX3_part_8 : decode cX3_part 8 = .ok (.iand, 1) := by decide +kernel
theorem dX3_part_9 : decode cX3_part 9 = .ok (.ireturn, 1) := by decide +kernel
theorem dX3_pairsOfFirst_0 : decode cX3_pairsOfFirst 0 = .ok (.iconst 0, 1) := by decide +kernel
theorem dX3_pairsOfFirst_1 : decode cX3_pairsOfFirst 1 = .ok (.istore_n 2, 1) := by decide +kernel
theorem dX3_pairsOfFirst_2 : decode cX3_pairsOfFirst 2 = .ok (.iconst 2, 1) := by decide +kernel
theorem dX3_pairsOfFirst_3 : decode cX3_pairsOfFirst 3 = .ok (.iload_n 1, 1) := by decide +kernel
theorem dX3_pairsOfFirst_4 : decode cX3_pairsOfFirst 4 = .ok (.imul, 1) := by decide +kernel
theorem dX3_pairsOfFirst_5 : decode cX3_pairsOfFirst 5 = .ok (.iconst 1, 1) := by decide +kernel
theorem dX3_pairsOfFirst_6 : decode cX3_pairsOfFirst 6 = .ok (.isub, 1) := by decide +kernel
theorem dX3_pairsOfFirst_7 : decode cX3_pairsOfFirst 7 = .ok (.istore_n 3, 1) := by decide +kernel
theorem dX3_pairsOfFirst_8 : decode cX3_pairsOfFirst 8 = .ok (.iload_n 3, 1) := by decide +kernel
theorem dX3_pairsOfFirst_9 : decode cX3_pairsOfFirst 9 = .ok (.ifCond .lt 29, 3) := by decide +kernel
theorem dX3_pairsOfFirst_12 : decode cX3_pairsOfFirst 12 = .ok (.iload_n 2, 1) := by decide +kernel
theorem dX3_pairsOfFirst_13 : decode cX3_pairsOfFirst 13 = .ok (.iload_n 0, 1) := by decide +kernel
theorem dX3_pairsOfFirst_14 : decode cX3_pairsOfFirst 14 = .ok (.iload_n 3, 1) := by decide +kernel
theorem dX3_pairsOfFirst_15 : decode cX3_pairsOfFirst 15 = .ok (.invokestatic 9, 3) := by decide +kernel
theorem dX3_pairsOfFirst_18 : decode cX3_pairsOfFirst 18 = .ok (.iadd, 1) := by decide +kernel
theorem dX3_pairsOfFirst_19 : decode cX3_pairsOfFirst 19 = .ok (.istore_n 2, 1) := by decide +kernel
theorem dX3_pairsOfFirst_20 : decode cX3_pairsOfFirst 20 = .ok (.iload_n 2, 1) := by decide +kernel
theorem dX3_pairsOfFirst_21 : decode cX3_pairsOfFirst 21 = .ok (.ifCond .ne 11, 3) := by decide +kernel
theorem dX3_pairsOfFirst_24 : decode cX3_pairsOfFirst 24 = .ok (.iload_n 1, 1) := by decide +kernel
theorem dX3_pairsOfFirst_25 : decode cX3_pairsOfFirst 25 = .ok (.iconst 1, 1) := by decide +kernel
theorem dX3_pairsOfFirst_26 : decode cX3_pairsOfFirst 26 = .ok (.isub, 1) := by decide +kernel
theorem dX3_pairsOfFirst_27 : decode cX3_pairsOfFirst 27 = .ok (.iload_n 3, 1) := by decide +kernel
theorem dX3_pairsOfFirst_28 : decode cX3_pairsOfFirst 28 = .ok (.iconst 2, 1) := by decide +kernel
theorem dX3_pairsOfFirst_29 : decode cX3_pairsOfFirst 29 = .ok (.idiv, 1) := by decide +kernel
theorem dX3_pairsOfFirst_30 : decode cX3_pairsOfFirst 30 = .ok (.isub, 1) := by decide +kernel
theorem dX3_pairsOfFirst_31 : decode cX3_pairsOfFirst 31 = .ok (.ireturn, 1) := by decide +kernel
theorem dX3_pairsOfFirst_32 : decode cX3_pairsOfFirst 32 = .ok (.iinc 3 (-1), 3) := by decide +kernel
theorem dX3_pairsOfFirst_35 : decode cX3_pairsOfFirst 35 = .ok (.goto (-27), 3) := by decide +kernel
theorem dX3_pairsOfFirst_38 : decode cX3_pairsOfFirst 38 = .ok (.iconst 0, 1) := by decide +kernel
theorem dX3_pairsOfFirst_39 : decode cX3_pairsOfFirst 39 = .ok (.ireturn, 1) := by decide +kernel
theorem dX3_pairsOfLast_0 : decode cX3_pairsOfLast 0 = .ok (.iconst 0, 1) := by decide +kernel
theorem dX3_pairsOfLast_1 : decode cX3_pairsOfLast 1 = .ok (.istore_n 2, 1) := by decide +kernel
theorem dX3_pairsOfLast_2 : decode cX3_pairsOfLast 2 = .ok (.iconst 0, 1) := by decide +kernel
theorem dX3_pairsOfLast_3 : decode cX3_pairsOfLast 3 = .ok (.istore_n 3, 1) := by decide +kernel
theorem dX3_pairsOfLast_4 : decode cX3_pairsOfLast 4 = .ok (.iload_n 3, 1) := by decide +kernel
theorem dX3_pairsOfLast_5 : decode cX3_pairsOfLast 5 = .ok (.iconst 2, 1) := by decide +kernel
theorem dX3_pairsOfLast_6 : decode cX3_pairsOfLast 6 = .ok (.iload_n 1, 1) := by decide +kernel
theorem dX3_pairsOfLast_7 : decode cX3_pairsOfLast 7 = .ok (.imul, 1) := by decide +kernel
theorem dX3_pairsOfLast_8 : decode cX3_pairsOfLast 8 = .ok (.if_icmp .ge 25, 3) := by decide +kernel
theorem dX3_pairsOfLast_11 : decode cX3_pairsOfLast 11 = .ok (.iload_n 2, 1) := by decide +kernel
theorem dX3_pairsOfLast_12 : decode cX3_pairsOfLast 12 = .ok (.iload_n 0, 1) := by decide +kernel
theorem dX3_pairsOfLast_13 : decode cX3_pairsOfLast 13 = .ok (.iload_n 3, 1) := by decide +kernel
theorem dX3_pairsOfLast_14 : decode cX3_pairsOfLast 14 = .ok (.invokestatic 9, 3) := by decide +kernel
theorem dX3_pairsOfLast_17 : decode cX3_pairsOfLast 17 = .ok (.isub, 1) := by decide +kernel
theorem dX3_pairsOfLast_18 : decode cX3_pairsOfLast 18 = .ok (.istore_n 2, 1) := by decide +kernel
theorem dX3_pairsOfLast_19 : decode cX3_pairsOfLast 19 = .ok (.iload_n 2, 1) := by decide +kernel
theorem dX3_pairsOfLast_20 : decode cX3_pairsOfLast 20 = .ok (.ifCond .ne 7, 3) := by decide +kernel
theorem dX3_pairsOfLast_23 : decode cX3_pairsOfLast 23 = .ok (.iload_n 3, 1) := by decide +kernel
theorem dX3_pairsOfLast_24 : decode cX3_pairsOfLast 24 = .ok (.iconst 2, 1) := by decide +kernel
theorem dX3_pairsOfLast_25 : decode cX3_pairsOfLast 25 = .ok (.idiv, 1) := by decide +kernel
theorem dX3_pairsOfLast_26 : decode cX3_pairsOfLast 26 = .ok (.ireturn, 1) := by decide +kernel
theorem dX3_pairsOfLast_27 : decode cX3_pairsOfLast 27 = .ok (.iinc 3 1, 3) := by decide +kernel
theorem dX3_pairsOfLast_30 : decode cX3_pairsOfLast 30 = .ok (.goto (-26), 3) := by decide +kernel
theorem dX3_pairsOfLast_33 : decode cX3_pairsOfLast 33 = .ok (.iconst 0, 1) := by decide +kernel
theorem dX3_pairsOfLast_34 : decode cX3_pairsOfLast 34 = .ok (.ireturn, 1) := by decide +kernel
theorem dX3_graft_0 : decode cX3_graft 0 = .ok (.iload_n 1, 1) := by decide +kernel
theorem dX3_graft_1 : decode cX3_graft 1 = .ok (.iconst 1, 1) := by decide +kernel
theorem dX3_graft_2 : decode cX3_graft 2 = .ok (.if_icmp .lt 9, 3) := by decide +kernel
theorem dX3_graft_5 : decode cX3_graft 5 = .ok (.iload_n 1, 1) := by decide +kernel
theorem dX3_graft_6 : decode cX3_graft 6 = .ok (.bipush 6, 2) := by decide +kernel
theorem dX3_graft_8 : decode cX3_graft 8 = .ok (.if_icmp .le 5, 3) := by decide +kernel
theorem dX3_graft_11 : decode cX3_graft 11 = .ok (.iconst 0, 1) := by decide +kernel
theorem dX3_graft_12 : decode cX3_graft 12 = .ok (.ireturn, 1) := by decide +kernel
theorem dX3_graft_13 : decode cX3_graft 13 = .ok (.iload_n 0, 1) := by decide +kernel
theorem dX3_graft_14 : decode cX3_graft 14 = .ok (.iload_n 1, 1) := by decide +kernel
theorem dX3_graft_15 : decode cX3_graft 15 = .ok (.invokestatic 15, 3) := by decide +kernel
theorem dX3_graft_18 : decode cX3_graft 18 = .ok (.istore_n 2, 1) := by decide +kernel
theorem dX3_graft_19 : decode cX3_graft 19 = .ok (.iload_n 1, 1) := by decide +kernel
theorem dX3_graft_20 : decode cX3_graft 20 = .ok (.iconst 1, 1) := by decide +kernel
theorem dX3_graft_21 : decode cX3_graft 21 = .ok (.isub, 1) := by decide +kernel
theorem dX3_graft_22 : decode cX3_graft 22 = .ok (.iload_n 2, 1) := by decide +kernel
theorem dX3_graft_23 : decode cX3_graft 23 = .ok (.isub, 1) := by decide +kernel
theorem dX3_graft_24 : decode cX3_graft 24 = .ok (.istore_n 3, 1) := by decide +kernel
theorem dX3_graft_25 : decode cX3_graft 25 = .ok (.iload_n 0, 1) := by decide +kernel
theorem dX3_graft_26 : decode cX3_graft 26 = .ok (.iconst 2, 1) := by decide +kernel
theorem dX3_graft_27 : decode cX3_graft 27 = .ok (.iload_n 2, 1) := by decide +kernel
theorem dX3_graft_28 : decode cX3_graft 28 = .ok (.imul, 1) := by decide +kernel
theorem dX3_graft_29 : decode cX3_graft 29 = .ok (.iconst 2, 1) := by decide +kernel
theorem dX3_graft_30 : decode cX3_graft 30 = .ok (.iadd, 1) := by decide +kernel
theorem dX3_graft_31 : decode cX3_graft 31 = .ok (.iconst 2, 1) := by decide +kernel
theorem dX3_graft_32 : decode cX3_graft 32 = .ok (.iload_n 3, 1) := by decide +kernel
theorem dX3_graft_33 : decode cX3_graft 33 = .ok (.imul, 1) := by decide +kernel
theorem dX3_graft_34 : decode cX3_graft 34 = .ok (.invokestatic 18, 3) := by decide +kernel
theorem dX3_graft_37 : decode cX3_graft 37 = .ok (.iload_n 3, 1) := by decide +kernel
theorem dX3_graft_38 : decode cX3_graft 38 = .ok (.invokestatic 22, 3) := by decide +kernel
theorem dX3_graft_41 : decode cX3_graft 41 = .ok (.istore 4, 2) := by decide +kernel
theorem dX3_graft_43 : decode cX3_graft 43 = .ok (.iload_n 0, 1) := by decide +kernel
theorem dX3_graft_44 : decode cX3_graft 44 = .ok (.iconst 1, 1) := by decide +kernel
theorem dX3_graft_45 : decode cX3_graft 45 = .ok (.iconst 2, 1) := by decide +kernel
theorem dX3_graft_46 : decode cX3_graft 46 = .ok (.iload_n 2, 1) := by decide +kernel
theorem dX3_graft_47 : decode cX3_graft 47 = .ok (.imul, 1) := by decide +kernel
theorem dX3_graft_48 : decode cX3_graft 48 = .ok (.invokestatic 18, 3) := by decide +kernel
theorem dX3_graft_51 : decode cX3_graft 51 = .ok (.iload_n 2, 1) := by decide +kernel
theorem dX3_graft_52 : decode cX3_graft 52 = .ok (.invokestatic 22, 3) := by decide +kernel
theorem dX3_graft_55 : decode cX3_graft 55 = .ok (.istore 5, 2) := by decide +kernel
theorem dX3_graft_57 : decode cX3_graft 57 = .ok (.iload 4, 2) := by decide +kernel
theorem dX3_graft_59 : decode cX3_graft 59 = .ok (.iload_n 3, 1) := by decide +kernel
theorem dX3_graft_60 : decode cX3_graft 60 = .ok (.iload 5, 2) := by decide +kernel
theorem dX3_graft_62 : decode cX3_graft 62 = .ok (.iload_n 2, 1) := by decide +kernel
theorem dX3_graft_63 : decode cX3_graft 63 = .ok (.invokestatic 25, 3) := by decide +kernel
theorem dX3_graft_66 : decode cX3_graft 66 = .ok (.ireturn, 1) := by decide +kernel
theorem dX3_backward_0 : decode cX3_backward 0 = .ok (.iconst 0, 1) := by decide +kernel
theorem dX3_backward_1 : decode cX3_backward 1 = .ok (.istore_n 2, 1) := by decide +kernel
theorem dX3_backward_2 : decode cX3_backward 2 = .ok (.iconst 0, 1) := by decide +kernel
theorem dX3_backward_3 : decode cX3_backward 3 = .ok (.istore_n 3, 1) := by decide +kernel
theorem dX3_backward_4 : decode cX3_backward 4 = .ok (.iload_n 3, 1) := by decide +kernel
theorem dX3_backward_5 : decode cX3_backward 5 = .ok (.iconst 2, 1) := by decide +kernel
theorem dX3_backward_6 : decode cX3_backward 6 = .ok (.iload_n 1, 1) := by decide +kernel
theorem dX3_backward_7 : decode cX3_backward 7 = .ok (.imul, 1) := by decide +kernel
theorem dX3_backward_8 : decode cX3_backward 8 = .ok (.if_icmp .ge 27, 3) := by decide +kernel
theorem dX3_backward_11 : decode cX3_backward 11 = .ok (.iload_n 2, 1) := by decide +kernel
theorem dX3_backward_12 : decode cX3_backward 12 = .ok (.iconst 1, 1) := by decide +kernel
theorem dX3_backward_13 : decode cX3_backward 13 = .ok (.ishl, 1) := by decide +kernel
theorem dX3_backward_14 : decode cX3_backward 14 = .ok (.iload_n 0, 1) := by decide +kernel
theorem dX3_backward_15 : decode cX3_backward 15 = .ok (.iload_n 3, 1) := by decide +kernel
theorem dX3_backward_16 : decode cX3_backward 16 = .ok (.invokestatic 31, 3) := by decide +kernel
theorem dX3_backward_19 : decode cX3_backward 19 = .ok (.ifCond .eq 7, 3) := by decide +kernel
theorem dX3_backward_22 : decode cX3_backward 22 = .ok (.iconst 0, 1) := by decide +kernel
theorem dX3_backward_23 : decode cX3_backward 23 = .ok (.goto 4, 3) := by decide +kernel
theorem dX3_backward_26 : decode cX3_backward 26 = .ok (.iconst 1, 1) := by decide +kernel
theorem dX3_backward_27 : decode cX3_backward 27 = .ok (.ior, 1) := by decide +kernel
theorem dX3_backward_28 : decode cX3_backward 28 = .ok (.istore_n 2, 1) := by decide +kernel
theorem dX3_backward_29 : decode cX3_backward 29 = .ok (.iinc 3 1, 3) := by decide +kernel
theorem dX3_backward_32 : decode cX3_backward 32 = .ok (.goto (-28), 3) := by decide +kernel
theorem dX3_backward_35 : decode cX3_backward 35 = .ok (.iload_n 2, 1) := by decide +kernel
theorem dX3_backward_36 : decode cX3_backward 36 = .ok (.ireturn, 1) := by decide +kernel
theorem dX3_roll_0 : decode cX3_roll 0 = .ok (.iload_n 0, 1) := by decide +kernel
theorem dX3_roll_1 : decode cX3_roll 1 = .ok (.iload_n 1, 1) := by decide +kernel
theorem dX3_roll_2 : decode cX3_roll 2 = .ok (.invokestatic 35, 3) := by decide +kernel
theorem dX3_roll_5 : decode cX3_roll 5 = .ok (.istore_n 2, 1) := by decide +kernel
theorem dX3_roll_6 : decode cX3_roll 6 = .ok (.iload_n 1, 1) := by decide +kernel
theorem dX3_roll_7 : decode cX3_roll 7 = .ok (.iconst 1, 1) := by decide +kernel
theorem dX3_roll_8 : decode cX3_roll 8 = .ok (.isub, 1) := by decide +kernel
theorem dX3_roll_9 : decode cX3_roll 9 = .ok (.iload_n 2, 1) := by decide +kernel
theorem dX3_roll_10 : decode cX3_roll 10 = .ok (.isub, 1) := by decide +kernel
theorem dX3_roll_11 : decode cX3_roll 11 = .ok (.istore_n 3, 1) := by decide +kernel
theorem dX3_roll_12 : decode cX3_roll 12 = .ok (.iload_n 0, 1) := by decide +kernel
theorem dX3_roll_13 : decode cX3_roll 13 = .ok (.iconst 2, 1) := by decide +kernel
theorem dX3_roll_14 : decode cX3_roll 14 = .ok (.iload_n 3, 1) := by decide +kernel
theorem dX3_roll_15 : decode cX3_roll 15 = .ok (.imul, 1) := by decide +kernel
theorem dX3_roll_16 : decode cX3_roll 16 = .ok (.iconst 1, 1) := by decide +kernel
theorem dX3_roll_17 : decode cX3_roll 17 = .ok (.iadd, 1) := by decide +kernel
theorem dX3_roll_18 : decode cX3_roll 18 = .ok (.iconst 2, 1) := by decide +kernel
theorem dX3_roll_19 : decode cX3_roll 19 = .ok (.iload_n 2, 1) := by decide +kernel
theorem dX3_roll_20 : decode cX3_roll 20 = .ok (.imul, 1) := by decide +kernel
theorem dX3_roll_21 : decode cX3_roll 21 = .ok (.invokestatic 18, 3) := by decide +kernel
theorem dX3_roll_24 : decode cX3_roll 24 = .ok (.istore 4, 2) := by decide +kernel
theorem dX3_roll_26 : decode cX3_roll 26 = .ok (.iload_n 0, 1) := by decide +kernel
theorem dX3_roll_27 : decode cX3_roll 27 = .ok (.iconst 0, 1) := by decide +kernel
theorem dX3_roll_28 : decode cX3_roll 28 = .ok (.iconst 2, 1) := by decide +kernel
theorem dX3_roll_29 : decode cX3_roll 29 = .ok (.iload_n 3, 1) := by decide +kernel
theorem dX3_roll_30 : decode cX3_roll 30 = .ok (.imul, 1) := by decide +kernel
theorem dX3_roll_31 : decode cX3_roll 31 = .ok (.invokestatic 18, 3) := by decide +kernel
theorem dX3_roll_34 : decode cX3_roll 34 = .ok (.istore 5, 2) := by decide +kernel
theorem dX3_roll_36 : decode cX3_roll 36 = .ok (.iload 4, 2) := by decide +kernel
theorem dX3_roll_38 : decode cX3_roll 38 = .ok (.iconst 2, 1) := by decide +kernel
theorem dX3_roll_39 : decode cX3_roll 39 = .ok (.iload_n 3, 1) := by decide +kernel
theorem dX3_roll_40 : decode cX3_roll 40 = .ok (.imul, 1) := by decide +kernel
theorem dX3_roll_41 : decode cX3_roll 41 = .ok (.iconst 2, 1) := by decide +kernel
theorem dX3_roll_42 : decode cX3_roll 42 = .ok (.iadd, 1) := by decide +kernel
theorem dX3_roll_43 : decode cX3_roll 43 = .ok (.ishl, 1) := by decide +kernel
theorem dX3_roll_44 : decode cX3_roll 44 = .ok (.iconst 1, 1) := by decide +kernel
theorem dX3_roll_45 : decode cX3_roll 45 = .ok (.iconst 2, 1) := by decide +kernel
theorem dX3_roll_46 : decode cX3_roll 46 = .ok (.iload_n 3, 1) := by decide +kernel
theorem dX3_roll_47 : decode cX3_roll 47 = .ok (.imul, 1) := by decide +kernel
theorem dX3_roll_48 : decode cX3_roll 48 = .ok (.iconst 1, 1) := by decide +kernel
theorem dX3_roll_49 : decode cX3_roll 49 = .ok (.iadd, 1) := by decide +kernel
theorem dX3_roll_50 : decode cX3_roll 50 = .ok (.ishl, 1) := by decide +kernel
theorem dX3_roll_51 : decode cX3_roll 51 = .ok (.ior, 1) := by decide +kernel
theorem dX3_roll_52 : decode cX3_roll 52 = .ok (.iload 5, 2) := by decide +kernel
theorem dX3_roll_54 : decode cX3_roll 54 = .ok (.iconst 1, 1) := by decide +kernel
theorem dX3_roll_55 : decode cX3_roll 55 = .ok (.ishl, 1) := by decide +kernel
theorem dX3_roll_56 : decode cX3_roll 56 = .ok (.ior, 1) := by decide +kernel
theorem dX3_roll_57 : decode cX3_roll 57 = .ok (.ireturn, 1) := by decide +kernel
theorem dX3_valueOf_0 : decode cX3_valueOf 0 = .ok (.iload_n 0, 1) := by decide +kernel
theorem dX3_valueOf_1 : decode cX3_valueOf 1 = .ok (.tableswitch 45 0 2 #[27, 33, 39], 27) := by decide +kernel
theorem dX3_valueOf_28 : decode cX3_valueOf 28 = .ok (.iload_n 1, 1) := by decide +kernel
theorem dX3_valueOf_29 : decode cX3_valueOf 29 = .ok (.iload_n 2, 1) := by decide +kernel
theorem dX3_valueOf_30 : decode cX3_valueOf 30 = .ok (.invokestatic 38, 3) := by decide +kernel
theorem dX3_valueOf_33 : decode cX3_valueOf 33 = .ok (.ireturn, 1) := by decide +kernel
theorem dX3_valueOf_34 : decode cX3_valueOf 34 = .ok (.iload_n 1, 1) := by decide +kernel
theorem dX3_valueOf_35 : decode cX3_valueOf 35 = .ok (.iload_n 2, 1) := by decide +kernel
theorem dX3_valueOf_36 : decode cX3_valueOf 36 = .ok (.invokestatic 41, 3) := by decide +kernel
theorem dX3_valueOf_39 : decode cX3_valueOf 39 = .ok (.ireturn, 1) := by decide +kernel
theorem dX3_valueOf_40 : decode cX3_valueOf 40 = .ok (.iload_n 1, 1) := by decide +kernel
theorem dX3_valueOf_41 : decode cX3_valueOf 41 = .ok (.iload_n 2, 1) := by decide +kernel
theorem dX3_valueOf_42 : decode cX3_valueOf 42 = .ok (.invokestatic 44, 3) := by decide +kernel
theorem dX3_valueOf_45 : decode cX3_valueOf 45 = .ok (.ireturn, 1) := by decide +kernel
theorem dX3_valueOf_46 : decode cX3_valueOf 46 = .ok (.iload_n 1, 1) := by decide +kernel
theorem dX3_valueOf_47 : decode cX3_valueOf 47 = .ok (.iload_n 2, 1) := by decide +kernel
theorem dX3_valueOf_48 : decode cX3_valueOf 48 = .ok (.invokestatic 47, 3) := by decide +kernel
theorem dX3_valueOf_51 : decode cX3_valueOf 51 = .ok (.ireturn, 1) := by decide +kernel
theorem dX3_peaks_0 : decode cX3_peaks 0 = .ok (.iconst 0, 1) := by decide +kernel
theorem dX3_peaks_1 : decode cX3_peaks 1 = .ok (.istore_n 2, 1) := by decide +kernel
theorem dX3_peaks_2 : decode cX3_peaks 2 = .ok (.iconst 2, 1) := by decide +kernel
theorem dX3_peaks_3 : decode cX3_peaks 3 = .ok (.iload_n 1, 1) := by decide +kernel
theorem dX3_peaks_4 : decode cX3_peaks 4 = .ok (.imul, 1) := by decide +kernel
theorem dX3_peaks_5 : decode cX3_peaks 5 = .ok (.iconst 1, 1) := by decide +kernel
theorem dX3_peaks_6 : decode cX3_peaks 6 = .ok (.isub, 1) := by decide +kernel
theorem dX3_peaks_7 : decode cX3_peaks 7 = .ok (.istore_n 3, 1) := by decide +kernel
theorem dX3_peaks_8 : decode cX3_peaks 8 = .ok (.iload_n 3, 1) := by decide +kernel
theorem dX3_peaks_9 : decode cX3_peaks 9 = .ok (.iconst 1, 1) := by decide +kernel
theorem dX3_peaks_10 : decode cX3_peaks 10 = .ok (.if_icmp .lt 30, 3) := by decide +kernel
theorem dX3_peaks_13 : decode cX3_peaks 13 = .ok (.iload_n 0, 1) := by decide +kernel
theorem dX3_peaks_14 : decode cX3_peaks 14 = .ok (.iload_n 3, 1) := by decide +kernel
theorem dX3_peaks_15 : decode cX3_peaks 15 = .ok (.invokestatic 31, 3) := by decide +kernel
theorem dX3_peaks_18 : decode cX3_peaks 18 = .ok (.ifCond .eq 16, 3) := by decide +kernel
theorem dX3_peaks_21 : decode cX3_peaks 21 = .ok (.iload_n 0, 1) := by decide +kernel
theorem dX3_peaks_22 : decode cX3_peaks 22 = .ok (.iload_n 3, 1) := by decide +kernel
theorem dX3_peaks_23 : decode cX3_peaks 23 = .ok (.iconst 1, 1) := by decide +kernel
theorem dX3_peaks_24 : decode cX3_peaks 24 = .ok (.isub, 1) := by decide +kernel
theorem dX3_peaks_25 : decode cX3_peaks 25 = .ok (.invokestatic 31, 3) := by decide +kernel
theorem dX3_peaks_28 : decode cX3_peaks 28 = .ok (.ifCond .ne 6, 3) := by decide +kernel
theorem dX3_peaks_31 : decode cX3_peaks 31 = .ok (.iinc 2 1, 3) := by decide +kernel
theorem dX3_peaks_34 : decode cX3_peaks 34 = .ok (.iinc 3 (-1), 3) := by decide +kernel
theorem dX3_peaks_37 : decode cX3_peaks 37 = .ok (.goto (-29), 3) := by decide +kernel
theorem dX3_peaks_40 : decode cX3_peaks 40 = .ok (.iload_n 2, 1) := by decide +kernel
theorem dX3_peaks_41 : decode cX3_peaks 41 = .ok (.ireturn, 1) := by decide +kernel
theorem dX3_returns_0 : decode cX3_returns 0 = .ok (.iconst 0, 1) := by decide +kernel
theorem dX3_returns_1 : decode cX3_returns 1 = .ok (.istore_n 2, 1) := by decide +kernel
theorem dX3_returns_2 : decode cX3_returns 2 = .ok (.iconst 0, 1) := by decide +kernel
theorem dX3_returns_3 : decode cX3_returns 3 = .ok (.istore_n 3, 1) := by decide +kernel
theorem dX3_returns_4 : decode cX3_returns 4 = .ok (.iconst 2, 1) := by decide +kernel
theorem dX3_returns_5 : decode cX3_returns 5 = .ok (.iload_n 1, 1) := by decide +kernel
theorem dX3_returns_6 : decode cX3_returns 6 = .ok (.imul, 1) := by decide +kernel
theorem dX3_returns_7 : decode cX3_returns 7 = .ok (.iconst 1, 1) := by decide +kernel
theorem dX3_returns_8 : decode cX3_returns 8 = .ok (.isub, 1) := by decide +kernel
theorem dX3_returns_9 : decode cX3_returns 9 = .ok (.istore 4, 2) := by decide +kernel
theorem dX3_returns_11 : decode cX3_returns 11 = .ok (.iload 4, 2) := by decide +kernel
theorem dX3_returns_13 : decode cX3_returns 13 = .ok (.ifCond .lt 25, 3) := by decide +kernel
theorem dX3_returns_16 : decode cX3_returns 16 = .ok (.iload_n 3, 1) := by decide +kernel
theorem dX3_returns_17 : decode cX3_returns 17 = .ok (.iload_n 0, 1) := by decide +kernel
theorem dX3_returns_18 : decode cX3_returns 18 = .ok (.iload 4, 2) := by decide +kernel
theorem dX3_returns_20 : decode cX3_returns 20 = .ok (.invokestatic 9, 3) := by decide +kernel
theorem dX3_returns_23 : decode cX3_returns 23 = .ok (.iadd, 1) := by decide +kernel
theorem dX3_returns_24 : decode cX3_returns 24 = .ok (.istore_n 3, 1) := by decide +kernel
theorem dX3_returns_25 : decode cX3_returns 25 = .ok (.iload_n 3, 1) := by decide +kernel
theorem dX3_returns_26 : decode cX3_returns 26 = .ok (.ifCond .ne 6, 3) := by decide +kernel
theorem dX3_returns_29 : decode cX3_returns 29 = .ok (.iinc 2 1, 3) := by decide +kernel
theorem dX3_returns_32 : decode cX3_returns 32 = .ok (.iinc 4 (-1), 3) := by decide +kernel
theorem dX3_returns_35 : decode cX3_returns 35 = .ok (.goto (-24), 3) := by decide +kernel
theorem dX3_returns_38 : decode cX3_returns 38 = .ok (.iload_n 2, 1) := by decide +kernel
theorem dX3_returns_39 : decode cX3_returns 39 = .ok (.ireturn, 1) := by decide +kernel
theorem dX3_greatestHeight_0 : decode cX3_greatestHeight 0 = .ok (.iconst 0, 1) := by decide +kernel
theorem dX3_greatestHeight_1 : decode cX3_greatestHeight 1 = .ok (.istore_n 2, 1) := by decide +kernel
theorem dX3_greatestHeight_2 : decode cX3_greatestHeight 2 = .ok (.iconst 0, 1) := by decide +kernel
theorem dX3_greatestHeight_3 : decode cX3_greatestHeight 3 = .ok (.istore_n 3, 1) := by decide +kernel
theorem dX3_greatestHeight_4 : decode cX3_greatestHeight 4 = .ok (.iconst 2, 1) := by decide +kernel
theorem dX3_greatestHeight_5 : decode cX3_greatestHeight 5 = .ok (.iload_n 1, 1) := by decide +kernel
theorem dX3_greatestHeight_6 : decode cX3_greatestHeight 6 = .ok (.imul, 1) := by decide +kernel
theorem dX3_greatestHeight_7 : decode cX3_greatestHeight 7 = .ok (.iconst 1, 1) := by decide +kernel
theorem dX3_greatestHeight_8 : decode cX3_greatestHeight 8 = .ok (.isub, 1) := by decide +kernel
theorem dX3_greatestHeight_9 : decode cX3_greatestHeight 9 = .ok (.istore 4, 2) := by decide +kernel
theorem dX3_greatestHeight_11 : decode cX3_greatestHeight 11 = .ok (.iload 4, 2) := by decide +kernel
theorem dX3_greatestHeight_13 : decode cX3_greatestHeight 13 = .ok (.ifCond .lt 24, 3) := by decide +kernel
theorem dX3_greatestHeight_16 : decode cX3_greatestHeight 16 = .ok (.iload_n 3, 1) := by decide +kernel
theorem dX3_greatestHeight_17 : decode cX3_greatestHeight 17 = .ok (.iload_n 0, 1) := by decide +kernel
theorem dX3_greatestHeight_18 : decode cX3_greatestHeight 18 = .ok (.iload 4, 2) := by decide +kernel
theorem dX3_greatestHeight_20 : decode cX3_greatestHeight 20 = .ok (.invokestatic 9, 3) := by decide +kernel
theorem dX3_greatestHeight_23 : decode cX3_greatestHeight 23 = .ok (.iadd, 1) := by decide +kernel
theorem dX3_greatestHeight_24 : decode cX3_greatestHeight 24 = .ok (.istore_n 3, 1) := by decide +kernel
theorem dX3_greatestHeight_25 : decode cX3_greatestHeight 25 = .ok (.iload_n 2, 1) := by decide +kernel
theorem dX3_greatestHeight_26 : decode cX3_greatestHeight 26 = .ok (.iload_n 3, 1) := by decide +kernel
theorem dX3_greatestHeight_27 : decode cX3_greatestHeight 27 = .ok (.invokestatic 50, 3) := by decide +kernel
theorem dX3_greatestHeight_30 : decode cX3_greatestHeight 30 = .ok (.istore_n 2, 1) := by decide +kernel
theorem dX3_greatestHeight_31 : decode cX3_greatestHeight 31 = .ok (.iinc 4 (-1), 3) := by decide +kernel
theorem dX3_greatestHeight_34 : decode cX3_greatestHeight 34 = .ok (.goto (-23), 3) := by decide +kernel
theorem dX3_greatestHeight_37 : decode cX3_greatestHeight 37 = .ok (.iload_n 2, 1) := by decide +kernel
theorem dX3_greatestHeight_38 : decode cX3_greatestHeight 38 = .ok (.ireturn, 1) := by decide +kernel
theorem dX3_area_0 : decode cX3_area 0 = .ok (.iconst 0, 1) := by decide +kernel
theorem dX3_area_1 : decode cX3_area 1 = .ok (.istore_n 2, 1) := by decide +kernel
theorem dX3_area_2 : decode cX3_area 2 = .ok (.iconst 0, 1) := by decide +kernel
theorem dX3_area_3 : decode cX3_area 3 = .ok (.istore_n 3, 1) := by decide +kernel
theorem dX3_area_4 : decode cX3_area 4 = .ok (.iconst 2, 1) := by decide +kernel
theorem dX3_area_5 : decode cX3_area 5 = .ok (.iload_n 1, 1) := by decide +kernel
theorem dX3_area_6 : decode cX3_area 6 = .ok (.imul, 1) := by decide +kernel
theorem dX3_area_7 : decode cX3_area 7 = .ok (.iconst 1, 1) := by decide +kernel
theorem dX3_area_8 : decode cX3_area 8 = .ok (.isub, 1) := by decide +kernel
theorem dX3_area_9 : decode cX3_area 9 = .ok (.istore 4, 2) := by decide +kernel
theorem dX3_area_11 : decode cX3_area 11 = .ok (.iload 4, 2) := by decide +kernel
theorem dX3_area_13 : decode cX3_area 13 = .ok (.ifCond .lt 22, 3) := by decide +kernel
theorem dX3_area_16 : decode cX3_area 16 = .ok (.iload_n 3, 1) := by decide +kernel
theorem dX3_area_17 : decode cX3_area 17 = .ok (.iload_n 0, 1) := by decide +kernel
theorem dX3_area_18 : decode cX3_area 18 = .ok (.iload 4, 2) := by decide +kernel
theorem dX3_area_20 : decode cX3_area 20 = .ok (.invokestatic 9, 3) := by decide +kernel
theorem dX3_area_23 : decode cX3_area 23 = .ok (.iadd, 1) := by decide +kernel
theorem dX3_area_24 : decode cX3_area 24 = .ok (.istore_n 3, 1) := by decide +kernel
theorem dX3_area_25 : decode cX3_area 25 = .ok (.iload_n 2, 1) := by decide +kernel
theorem dX3_area_26 : decode cX3_area 26 = .ok (.iload_n 3, 1) := by decide +kernel
theorem dX3_area_27 : decode cX3_area 27 = .ok (.iadd, 1) := by decide +kernel
theorem dX3_area_28 : decode cX3_area 28 = .ok (.istore_n 2, 1) := by decide +kernel
theorem dX3_area_29 : decode cX3_area 29 = .ok (.iinc 4 (-1), 3) := by decide +kernel
theorem dX3_area_32 : decode cX3_area 32 = .ok (.goto (-21), 3) := by decide +kernel
theorem dX3_area_35 : decode cX3_area 35 = .ok (.iload_n 2, 1) := by decide +kernel
theorem dX3_area_36 : decode cX3_area 36 = .ok (.ireturn, 1) := by decide +kernel
theorem dX2_isOrder_0 : decode cX2_isOrder 0 = .ok (.iload_n 0, 1) := by decide +kernel
theorem dX2_isOrder_1 : decode cX2_isOrder 1 = .ok (.istore_n 2, 1) := by decide +kernel
theorem dX2_isOrder_2 : decode cX2_isOrder 2 = .ok (.iconst 0, 1) := by decide +kernel
theorem dX2_isOrder_3 : decode cX2_isOrder 3 = .ok (.istore_n 3, 1) := by decide +kernel
theorem dX2_isOrder_4 : decode cX2_isOrder 4 = .ok (.iload_n 1, 1) := by decide +kernel
theorem dX2_isOrder_5 : decode cX2_isOrder 5 = .ok (.istore 4, 2) := by decide +kernel
theorem dX2_isOrder_7 : decode cX2_isOrder 7 = .ok (.iload 4, 2) := by decide +kernel
theorem dX2_isOrder_9 : decode cX2_isOrder 9 = .ok (.iconst 1, 1) := by decide +kernel
theorem dX2_isOrder_10 : decode cX2_isOrder 10 = .ok (.if_icmp .lt 51, 3) := by decide +kernel
theorem dX2_isOrder_13 : decode cX2_isOrder 13 = .ok (.iload_n 2, 1) := by decide +kernel
theorem dX2_isOrder_14 : decode cX2_isOrder 14 = .ok (.bipush 10, 2) := by decide +kernel
theorem dX2_isOrder_16 : decode cX2_isOrder 16 = .ok (.irem, 1) := by decide +kernel
theorem dX2_isOrder_17 : decode cX2_isOrder 17 = .ok (.istore 5, 2) := by decide +kernel
theorem dX2_isOrder_19 : decode cX2_isOrder 19 = .ok (.iload 5, 2) := by decide +kernel
theorem dX2_isOrder_21 : decode cX2_isOrder 21 = .ok (.iconst 1, 1) := by decide +kernel
theorem dX2_isOrder_22 : decode cX2_isOrder 22 = .ok (.if_icmp .lt 19, 3) := by decide +kernel
theorem dX2_isOrder_25 : decode cX2_isOrder 25 = .ok (.iload 5, 2) := by decide +kernel
theorem dX2_isOrder_27 : decode cX2_isOrder 27 = .ok (.iload_n 1, 1) := by decide +kernel
theorem dX2_isOrder_28 : decode cX2_isOrder 28 = .ok (.if_icmp .gt 13, 3) := by decide +kernel
theorem dX2_isOrder_31 : decode cX2_isOrder 31 = .ok (.iload_n 3, 1) := by decide +kernel
theorem dX2_isOrder_32 : decode cX2_isOrder 32 = .ok (.iload 5, 2) := by decide +kernel
theorem dX2_isOrder_34 : decode cX2_isOrder 34 = .ok (.ishr, 1) := by decide +kernel
theorem dX2_isOrder_35 : decode cX2_isOrder 35 = .ok (.iconst 1, 1) := by decide +kernel
theorem dX2_isOrder_36 : decode cX2_isOrder 36 = .ok (.iand, 1) := by decide +kernel
theorem dX2_isOrder_37 : decode cX2_isOrder 37 = .ok (.iconst 1, 1) := by decide +kernel
theorem dX2_isOrder_38 : decode cX2_isOrder 38 = .ok (.if_icmp .ne 5, 3) := by decide +kernel
theorem dX2_isOrder_41 : decode cX2_isOrder 41 = .ok (.iconst 0, 1) := by decide +kernel
theorem dX2_isOrder_42 : decode cX2_isOrder 42 = .ok (.ireturn, 1) := by decide +kernel
theorem dX2_isOrder_43 : decode cX2_isOrder 43 = .ok (.iload_n 3, 1) := by decide +kernel
theorem dX2_isOrder_44 : decode cX2_isOrder 44 = .ok (.iconst 1, 1) := by decide +kernel
theorem dX2_isOrder_45 : decode cX2_isOrder 45 = .ok (.iload 5, 2) := by decide +kernel
theorem dX2_isOrder_47 : decode cX2_isOrder 47 = .ok (.ishl, 1) := by decide +kernel
theorem dX2_isOrder_48 : decode cX2_isOrder 48 = .ok (.ior, 1) := by decide +kernel
theorem dX2_isOrder_49 : decode cX2_isOrder 49 = .ok (.istore_n 3, 1) := by decide +kernel
theorem dX2_isOrder_50 : decode cX2_isOrder 50 = .ok (.iload_n 2, 1) := by decide +kernel
theorem dX2_isOrder_51 : decode cX2_isOrder 51 = .ok (.bipush 10, 2) := by decide +kernel
theorem dX2_isOrder_53 : decode cX2_isOrder 53 = .ok (.idiv, 1) := by decide +kernel
theorem dX2_isOrder_54 : decode cX2_isOrder 54 = .ok (.istore_n 2, 1) := by decide +kernel
theorem dX2_isOrder_55 : decode cX2_isOrder 55 = .ok (.iinc 4 (-1), 3) := by decide +kernel
theorem dX2_isOrder_58 : decode cX2_isOrder 58 = .ok (.goto (-51), 3) := by decide +kernel
theorem dX2_isOrder_61 : decode cX2_isOrder 61 = .ok (.iload_n 2, 1) := by decide +kernel
theorem dX2_isOrder_62 : decode cX2_isOrder 62 = .ok (.ifCond .ne 7, 3) := by decide +kernel
theorem dX2_isOrder_65 : decode cX2_isOrder 65 = .ok (.iconst 1, 1) := by decide +kernel
theorem dX2_isOrder_66 : decode cX2_isOrder 66 = .ok (.goto 4, 3) := by decide +kernel
theorem dX2_isOrder_69 : decode cX2_isOrder 69 = .ok (.iconst 0, 1) := by decide +kernel
theorem dX2_isOrder_70 : decode cX2_isOrder 70 = .ok (.ireturn, 1) := by decide +kernel
theorem dX2_at_0 : decode cX2_at 0 = .ok (.iload_n 0, 1) := by decide +kernel
theorem dX2_at_1 : decode cX2_at 1 = .ok (.istore_n 3, 1) := by decide +kernel
theorem dX2_at_2 : decode cX2_at 2 = .ok (.iload_n 1, 1) := by decide +kernel
theorem dX2_at_3 : decode cX2_at 3 = .ok (.istore 4, 2) := by decide +kernel
theorem dX2_at_5 : decode cX2_at 5 = .ok (.iload 4, 2) := by decide +kernel
theorem dX2_at_7 : decode cX2_at 7 = .ok (.iload_n 2, 1) := by decide +kernel
theorem dX2_at_8 : decode cX2_at 8 = .ok (.if_icmp .le 14, 3) := by decide +kernel
theorem dX2_at_11 : decode cX2_at 11 = .ok (.iload_n 3, 1) := by decide +kernel
theorem dX2_at_12 : decode cX2_at 12 = .ok (.bipush 10, 2) := by decide +kernel
theorem dX2_at_14 : decode cX2_at 14 = .ok (.idiv, 1) := by decide +kernel
theorem dX2_at_15 : decode cX2_at 15 = .ok (.istore_n 3, 1) := by decide +kernel
theorem dX2_at_16 : decode cX2_at 16 = .ok (.iinc 4 (-1), 3) := by decide +kernel
theorem dX2_at_19 : decode cX2_at 19 = .ok (.goto (-14), 3) := by decide +kernel
theorem dX2_at_22 : decode cX2_at 22 = .ok (.iload_n 3, 1) := by decide +kernel
theorem dX2_at_23 : decode cX2_at 23 = .ok (.bipush 10, 2) := by decide +kernel
theorem dX2_at_25 : decode cX2_at 25 = .ok (.irem, 1) := by decide +kernel
theorem dX2_at_26 : decode cX2_at 26 = .ok (.ireturn, 1) := by decide +kernel
theorem dX2_ofRank_0 : decode cX2_ofRank 0 = .ok (.iconst 0, 1) := by decide +kernel
theorem dX2_ofRank_1 : decode cX2_ofRank 1 = .ok (.istore_n 2, 1) := by decide +kernel
theorem dX2_ofRank_2 : decode cX2_ofRank 2 = .ok (.iconst 0, 1) := by decide +kernel
theorem dX2_ofRank_3 : decode cX2_ofRank 3 = .ok (.istore_n 3, 1) := by decide +kernel
theorem dX2_ofRank_4 : decode cX2_ofRank 4 = .ok (.iload_n 0, 1) := by decide +kernel
theorem dX2_ofRank_5 : decode cX2_ofRank 5 = .ok (.istore 4, 2) := by decide +kernel
theorem dX2_ofRank_7 : decode cX2_ofRank 7 = .ok (.iload_n 1, 1) := by decide +kernel
theorem dX2_ofRank_8 : decode cX2_ofRank 8 = .ok (.iconst 1, 1) := by decide +kernel
theorem dX2_ofRank_9 : decode cX2_ofRank 9 = .ok (.isub, 1) := by decide +kernel
theorem dX2_ofRank_10 : decode cX2_ofRank 10 = .ok (.istore 5, 2) := by decide +kernel
theorem dX2_ofRank_12 : decode cX2_ofRank 12 = .ok (.iload 5, 2) := by decide +kernel
theorem dX2_ofRank_14 : decode cX2_ofRank 14 = .ok (.ifCond .lt 70, 3) := by decide +kernel
theorem dX2_ofRank_17 : decode cX2_ofRank 17 = .ok (.getstatic 9, 3) := by decide +kernel
theorem dX2_ofRank_20 : decode cX2_ofRank 20 = .ok (.iload 5, 2) := by decide +kernel
theorem dX2_ofRank_22 : decode cX2_ofRank 22 = .ok (.invokestatic 13, 3) := by decide +kernel
theorem dX2_ofRank_25 : decode cX2_ofRank 25 = .ok (.istore 6, 2) := by decide +kernel
theorem dX2_ofRank_27 : decode cX2_ofRank 27 = .ok (.iload 6, 2) := by decide +kernel
theorem dX2_ofRank_29 : decode cX2_ofRank 29 = .ok (.ifCond .le 15, 3) := by decide +kernel
theorem dX2_ofRank_32 : decode cX2_ofRank 32 = .ok (.iload_n 3, 1) := by decide +kernel
theorem dX2_ofRank_33 : decode cX2_ofRank 33 = .ok (.iload 4, 2) := by decide +kernel
theorem dX2_ofRank_35 : decode cX2_ofRank 35 = .ok (.iload 6, 2) := by decide +kernel
theorem dX2_ofRank_37 : decode cX2_ofRank 37 = .ok (.idiv, 1) := by decide +kernel
theorem dX2_ofRank_38 : decode cX2_ofRank 38 = .ok (.invokestatic 19, 3) := by decide +kernel
theorem dX2_ofRank_41 : decode cX2_ofRank 41 = .ok (.goto 4, 3) := by decide +kernel
theorem dX2_ofRank_44 : decode cX2_ofRank 44 = .ok (.iconst 0, 1) := by decide +kernel
theorem dX2_ofRank_45 : decode cX2_ofRank 45 = .ok (.istore 7, 2) := by decide +kernel
theorem dX2_ofRank_47 : decode cX2_ofRank 47 = .ok (.iload 6, 2) := by decide +kernel
theorem dX2_ofRank_49 : decode cX2_ofRank 49 = .ok (.ifCond .le 11, 3) := by decide +kernel
theorem dX2_ofRank_52 : decode cX2_ofRank 52 = .ok (.iload 4, 2) := by decide +kernel
theorem dX2_ofRank_54 : decode cX2_ofRank 54 = .ok (.iload 6, 2) := by decide +kernel
theorem dX2_ofRank_56 : decode cX2_ofRank 56 = .ok (.irem, 1) := by decide +kernel
theorem dX2_ofRank_57 : decode cX2_ofRank 57 = .ok (.goto 4, 3) := by decide +kernel
theorem dX2_ofRank_60 : decode cX2_ofRank 60 = .ok (.iconst 0, 1) := by decide +kernel
theorem dX2_ofRank_61 : decode cX2_ofRank 61 = .ok (.istore 4, 2) := by decide +kernel
theorem dX2_ofRank_63 : decode cX2_ofRank 63 = .ok (.iload_n 3, 1) := by decide +kernel
theorem dX2_ofRank_64 : decode cX2_ofRank 64 = .ok (.iconst 1, 1) := by decide +kernel
theorem dX2_ofRank_65 : decode cX2_ofRank 65 = .ok (.iload 7, 2) := by decide +kernel
theorem dX2_ofRank_67 : decode cX2_ofRank 67 = .ok (.ishl, 1) := by decide +kernel
theorem dX2_ofRank_68 : decode cX2_ofRank 68 = .ok (.ior, 1) := by decide +kernel
theorem dX2_ofRank_69 : decode cX2_ofRank 69 = .ok (.istore_n 3, 1) := by decide +kernel
theorem dX2_ofRank_70 : decode cX2_ofRank 70 = .ok (.iload_n 2, 1) := by decide +kernel
theorem dX2_ofRank_71 : decode cX2_ofRank 71 = .ok (.bipush 10, 2) := by decide +kernel
theorem dX2_ofRank_73 : decode cX2_ofRank 73 = .ok (.imul, 1) := by decide +kernel
theorem dX2_ofRank_74 : decode cX2_ofRank 74 = .ok (.iload 7, 2) := by decide +kernel
theorem dX2_ofRank_76 : decode cX2_ofRank 76 = .ok (.iadd, 1) := by decide +kernel
theorem dX2_ofRank_77 : decode cX2_ofRank 77 = .ok (.istore_n 2, 1) := by decide +kernel
theorem dX2_ofRank_78 : decode cX2_ofRank 78 = .ok (.iinc 5 (-1), 3) := by decide +kernel
theorem dX2_ofRank_81 : decode cX2_ofRank 81 = .ok (.goto (-69), 3) := by decide +kernel
theorem dX2_ofRank_84 : decode cX2_ofRank 84 = .ok (.iload_n 2, 1) := by decide +kernel
theorem dX2_ofRank_85 : decode cX2_ofRank 85 = .ok (.ireturn, 1) := by decide +kernel
theorem dX2_freeNumber_0 : decode cX2_freeNumber 0 = .ok (.iload_n 1, 1) := by decide +kernel
theorem dX2_freeNumber_1 : decode cX2_freeNumber 1 = .ok (.istore_n 2, 1) := by decide +kernel
theorem dX2_freeNumber_2 : decode cX2_freeNumber 2 = .ok (.iconst 1, 1) := by decide +kernel
theorem dX2_freeNumber_3 : decode cX2_freeNumber 3 = .ok (.istore_n 3, 1) := by decide +kernel
theorem dX2_freeNumber_4 : decode cX2_freeNumber 4 = .ok (.iload_n 3, 1) := by decide +kernel
theorem dX2_freeNumber_5 : decode cX2_freeNumber 5 = .ok (.bipush 6, 2) := by decide +kernel
theorem dX2_freeNumber_7 : decode cX2_freeNumber 7 = .ok (.if_icmp .gt 48, 3) := by decide +kernel
theorem dX2_freeNumber_10 : decode cX2_freeNumber 10 = .ok (.iload_n 0, 1) := by decide +kernel
theorem dX2_freeNumber_11 : decode cX2_freeNumber 11 = .ok (.iload_n 3, 1) := by decide +kernel
theorem dX2_freeNumber_12 : decode cX2_freeNumber 12 = .ok (.ishr, 1) := by decide +kernel
theorem dX2_freeNumber_13 : decode cX2_freeNumber 13 = .ok (.iconst 1, 1) := by decide +kernel
theorem dX2_freeNumber_14 : decode cX2_freeNumber 14 = .ok (.iand, 1) := by decide +kernel
theorem dX2_freeNumber_15 : decode cX2_freeNumber 15 = .ok (.ifCond .ne 7, 3) := by decide +kernel
theorem dX2_freeNumber_18 : decode cX2_freeNumber 18 = .ok (.iconst 1, 1) := by decide +kernel
theorem dX2_freeNumber_19 : decode cX2_freeNumber 19 = .ok (.goto 4, 3) := by decide +kernel
theorem dX2_freeNumber_22 : decode cX2_freeNumber 22 = .ok (.iconst 0, 1) := by decide +kernel
theorem dX2_freeNumber_23 : decode cX2_freeNumber 23 = .ok (.istore 4, 2) := by decide +kernel
theorem dX2_freeNumber_25 : decode cX2_freeNumber 25 = .ok (.iload 4, 2) := by decide +kernel
theorem dX2_freeNumber_27 : decode cX2_freeNumber 27 = .ok (.ifCond .eq 9, 3) := by decide +kernel
theorem dX2_freeNumber_30 : decode cX2_freeNumber 30 = .ok (.iload_n 2, 1) := by decide +kernel
theorem dX2_freeNumber_31 : decode cX2_freeNumber 31 = .ok (.ifCond .ne 5, 3) := by decide +kernel
theorem dX2_freeNumber_34 : decode cX2_freeNumber 34 = .ok (.iload_n 3, 1) := by decide +kernel
theorem dX2_freeNumber_35 : decode cX2_freeNumber 35 = .ok (.ireturn, 1) := by decide +kernel
theorem dX2_freeNumber_36 : decode cX2_freeNumber 36 = .ok (.iload_n 2, 1) := by decide +kernel
theorem dX2_freeNumber_37 : decode cX2_freeNumber 37 = .ok (.iload 4, 2) := by decide +kernel
theorem dX2_freeNumber_39 : decode cX2_freeNumber 39 = .ok (.ifCond .eq 7, 3) := by decide +kernel
theorem dX2_freeNumber_42 : decode cX2_freeNumber 42 = .ok (.iconst 1, 1) := by decide +kernel
theorem dX2_freeNumber_43 : decode cX2_freeNumber 43 = .ok (.goto 4, 3) := by decide +kernel
theorem dX2_freeNumber_46 : decode cX2_freeNumber 46 = .ok (.iconst 0, 1) := by decide +kernel
theorem dX2_freeNumber_47 : decode cX2_freeNumber 47 = .ok (.isub, 1) := by decide +kernel
theorem dX2_freeNumber_48 : decode cX2_freeNumber 48 = .ok (.istore_n 2, 1) := by decide +kernel
theorem dX2_freeNumber_49 : decode cX2_freeNumber 49 = .ok (.iinc 3 1, 3) := by decide +kernel
theorem dX2_freeNumber_52 : decode cX2_freeNumber 52 = .ok (.goto (-48), 3) := by decide +kernel
theorem dX2_freeNumber_55 : decode cX2_freeNumber 55 = .ok (.iconst 0, 1) := by decide +kernel
theorem dX2_freeNumber_56 : decode cX2_freeNumber 56 = .ok (.ireturn, 1) := by decide +kernel
theorem dX2_shape_0 : decode cX2_shape 0 = .ok (.iload_n 2, 1) := by decide +kernel
theorem dX2_shape_1 : decode cX2_shape 1 = .ok (.iconst 1, 1) := by decide +kernel
theorem dX2_shape_2 : decode cX2_shape 2 = .ok (.if_icmp .lt 19, 3) := by decide +kernel
theorem dX2_shape_5 : decode cX2_shape 5 = .ok (.iload_n 3, 1) := by decide +kernel
theorem dX2_shape_6 : decode cX2_shape 6 = .ok (.iload_n 1, 1) := by decide +kernel
theorem dX2_shape_7 : decode cX2_shape 7 = .ok (.if_icmp .gt 14, 3) := by decide +kernel
theorem dX2_shape_10 : decode cX2_shape 10 = .ok (.iload_n 2, 1) := by decide +kernel
theorem dX2_shape_11 : decode cX2_shape 11 = .ok (.iload_n 3, 1) := by decide +kernel
theorem dX2_shape_12 : decode cX2_shape 12 = .ok (.if_icmp .gt 9, 3) := by decide +kernel
theorem dX2_shape_15 : decode cX2_shape 15 = .ok (.iload_n 1, 1) := by decide +kernel
theorem dX2_shape_16 : decode cX2_shape 16 = .ok (.bipush 6, 2) := by decide +kernel
theorem dX2_shape_18 : decode cX2_shape 18 = .ok (.if_icmp .le 5, 3) := by decide +kernel
theorem dX2_shape_21 : decode cX2_shape 21 = .ok (.iconst 0, 1) := by decide +kernel
theorem dX2_shape_22 : decode cX2_shape 22 = .ok (.ireturn, 1) := by decide +kernel
theorem dX2_shape_23 : decode cX2_shape 23 = .ok (.iload_n 2, 1) := by decide +kernel
theorem dX2_shape_24 : decode cX2_shape 24 = .ok (.istore 4, 2) := by decide +kernel
theorem dX2_shape_26 : decode cX2_shape 26 = .ok (.iload_n 2, 1) := by decide +kernel
theorem dX2_shape_27 : decode cX2_shape 27 = .ok (.iconst 1, 1) := by decide +kernel
theorem dX2_shape_28 : decode cX2_shape 28 = .ok (.iadd, 1) := by decide +kernel
theorem dX2_shape_29 : decode cX2_shape 29 = .ok (.istore 5, 2) := by decide +kernel
theorem dX2_shape_31 : decode cX2_shape 31 = .ok (.iload 5, 2) := by decide +kernel
theorem dX2_shape_33 : decode cX2_shape 33 = .ok (.iload_n 3, 1) := by decide +kernel
theorem dX2_shape_34 : decode cX2_shape 34 = .ok (.if_icmp .gt 30, 3) := by decide +kernel
theorem dX2_shape_37 : decode cX2_shape 37 = .ok (.iload_n 0, 1) := by decide +kernel
theorem dX2_shape_38 : decode cX2_shape 38 = .ok (.iload_n 1, 1) := by decide +kernel
theorem dX2_shape_39 : decode cX2_shape 39 = .ok (.iload 5, 2) := by decide +kernel
theorem dX2_shape_41 : decode cX2_shape 41 = .ok (.invokestatic 25, 3) := by decide +kernel
theorem dX2_shape_44 : decode cX2_shape 44 = .ok (.iload_n 0, 1) := by decide +kernel
theorem dX2_shape_45 : decode cX2_shape 45 = .ok (.iload_n 1, 1) := by decide +kernel
theorem dX2_shape_46 : decode cX2_shape 46 = .ok (.iload 4, 2) := by decide +kernel
theorem dX2_shape_48 : decode cX2_shape 48 = .ok (.invokestatic 25, 3) := by decide +kernel
theorem dX2_shape_51 : decode cX2_shape 51 = .ok (.if_icmp .le 7, 3) := by decide +kernel
theorem dX2_shape_54 : decode cX2_shape 54 = .ok (.iload 5, 2) := by decide +kernel
theorem dX2_shape_56 : decode cX2_shape 56 = .ok (.istore 4, 2) := by decide +kernel
theorem dX2_shape_58 : decode cX2_shape 58 = .ok (.iinc 5 1, 3) := by decide +kernel
theorem dX2_shape_61 : decode cX2_shape 61 = .ok (.goto (-30), 3) := by decide +kernel
theorem dX2_shape_64 : decode cX2_shape 64 = .ok (.iload_n 0, 1) := by decide +kernel
theorem dX2_shape_65 : decode cX2_shape 65 = .ok (.iload_n 1, 1) := by decide +kernel
theorem dX2_shape_66 : decode cX2_shape 66 = .ok (.iload_n 2, 1) := by decide +kernel
theorem dX2_shape_67 : decode cX2_shape 67 = .ok (.iload 4, 2) := by decide +kernel
theorem dX2_shape_69 : decode cX2_shape 69 = .ok (.iconst 1, 1) := by decide +kernel
theorem dX2_shape_70 : decode cX2_shape 70 = .ok (.isub, 1) := by decide +kernel
theorem dX2_shape_71 : decode cX2_shape 71 = .ok (.invokestatic 28, 3) := by decide +kernel
theorem dX2_shape_74 : decode cX2_shape 74 = .ok (.istore 5, 2) := by decide +kernel
theorem dX2_shape_76 : decode cX2_shape 76 = .ok (.iload_n 0, 1) := by decide +kernel
theorem dX2_shape_77 : decode cX2_shape 77 = .ok (.iload_n 1, 1) := by decide +kernel
theorem dX2_shape_78 : decode cX2_shape 78 = .ok (.iload 4, 2) := by decide +kernel
theorem dX2_shape_80 : decode cX2_shape 80 = .ok (.iconst 1, 1) := by decide +kernel
theorem dX2_shape_81 : decode cX2_shape 81 = .ok (.iadd, 1) := by decide +kernel
theorem dX2_shape_82 : decode cX2_shape 82 = .ok (.iload_n 3, 1) := by decide +kernel
theorem dX2_shape_83 : decode cX2_shape 83 = .ok (.invokestatic 28, 3) := by decide +kernel
theorem dX2_shape_86 : decode cX2_shape 86 = .ok (.istore 6, 2) := by decide +kernel
theorem dX2_shape_88 : decode cX2_shape 88 = .ok (.iload 5, 2) := by decide +kernel
theorem dX2_shape_90 : decode cX2_shape 90 = .ok (.iload 4, 2) := by decide +kernel
theorem dX2_shape_92 : decode cX2_shape 92 = .ok (.iload_n 2, 1) := by decide +kernel
theorem dX2_shape_93 : decode cX2_shape 93 = .ok (.isub, 1) := by decide +kernel
theorem dX2_shape_94 : decode cX2_shape 94 = .ok (.iload 6, 2) := by decide +kernel
theorem dX2_shape_96 : decode cX2_shape 96 = .ok (.iload_n 3, 1) := by decide +kernel
theorem dX2_shape_97 : decode cX2_shape 97 = .ok (.iload 4, 2) := by decide +kernel
theorem dX2_shape_99 : decode cX2_shape 99 = .ok (.isub, 1) := by decide +kernel
theorem dX2_shape_100 : decode cX2_shape 100 = .ok (.invokestatic 32, 3) := by decide +kernel
theorem dX2_shape_103 : decode cX2_shape 103 = .ok (.ireturn, 1) := by decide +kernel
theorem dX2_invert_0 : decode cX2_invert 0 = .ok (.iconst 0, 1) := by decide +kernel
theorem dX2_invert_1 : decode cX2_invert 1 = .ok (.istore_n 2, 1) := by decide +kernel
theorem dX2_invert_2 : decode cX2_invert 2 = .ok (.iconst 1, 1) := by decide +kernel
theorem dX2_invert_3 : decode cX2_invert 3 = .ok (.istore_n 3, 1) := by decide +kernel
theorem dX2_invert_4 : decode cX2_invert 4 = .ok (.iload_n 3, 1) := by decide +kernel
theorem dX2_invert_5 : decode cX2_invert 5 = .ok (.iload_n 1, 1) := by decide +kernel
theorem dX2_invert_6 : decode cX2_invert 6 = .ok (.if_icmp .gt 28, 3) := by decide +kernel
theorem dX2_invert_9 : decode cX2_invert 9 = .ok (.iload_n 2, 1) := by decide +kernel
theorem dX2_invert_10 : decode cX2_invert 10 = .ok (.iload_n 3, 1) := by decide +kernel
theorem dX2_invert_11 : decode cX2_invert 11 = .ok (.getstatic 37, 3) := by decide +kernel
theorem dX2_invert_14 : decode cX2_invert 14 = .ok (.iload_n 1, 1) := by decide +kernel
theorem dX2_invert_15 : decode cX2_invert 15 = .ok (.iload_n 0, 1) := by decide +kernel
theorem dX2_invert_16 : decode cX2_invert 16 = .ok (.iload_n 1, 1) := by decide +kernel
theorem dX2_invert_17 : decode cX2_invert 17 = .ok (.iload_n 3, 1) := by decide +kernel
theorem dX2_invert_18 : decode cX2_invert 18 = .ok (.invokestatic 25, 3) := by decide +kernel
theorem dX2_invert_21 : decode cX2_invert 21 = .ok (.isub, 1) := by decide +kernel
theorem dX2_invert_22 : decode cX2_invert 22 = .ok (.invokestatic 13, 3) := by decide +kernel
theorem dX2_invert_25 : decode cX2_invert 25 = .ok (.imul, 1) := by decide +kernel
theorem dX2_invert_26 : decode cX2_invert 26 = .ok (.iadd, 1) := by decide +kernel
theorem dX2_invert_27 : decode cX2_invert 27 = .ok (.istore_n 2, 1) := by decide +kernel
theorem dX2_invert_28 : decode cX2_invert 28 = .ok (.iinc 3 1, 3) := by decide +kernel
theorem dX2_invert_31 : decode cX2_invert 31 = .ok (.goto (-27), 3) := by decide +kernel
theorem dX2_invert_34 : decode cX2_invert 34 = .ok (.iload_n 2, 1) := by decide +kernel
theorem dX2_invert_35 : decode cX2_invert 35 = .ok (.ireturn, 1) := by decide +kernel
theorem dX2_turn_0 : decode cX2_turn 0 = .ok (.iconst 0, 1) := by decide +kernel
theorem dX2_turn_1 : decode cX2_turn 1 = .ok (.istore_n 2, 1) := by decide +kernel
theorem dX2_turn_2 : decode cX2_turn 2 = .ok (.iload_n 0, 1) := by decide +kernel
theorem dX2_turn_3 : decode cX2_turn 3 = .ok (.istore_n 3, 1) := by decide +kernel
theorem dX2_turn_4 : decode cX2_turn 4 = .ok (.iload_n 1, 1) := by decide +kernel
theorem dX2_turn_5 : decode cX2_turn 5 = .ok (.istore 4, 2) := by decide +kernel
theorem dX2_turn_7 : decode cX2_turn 7 = .ok (.iload 4, 2) := by decide +kernel
theorem dX2_turn_9 : decode cX2_turn 9 = .ok (.iconst 1, 1) := by decide +kernel
theorem dX2_turn_10 : decode cX2_turn 10 = .ok (.if_icmp .lt 24, 3) := by decide +kernel
theorem dX2_turn_13 : decode cX2_turn 13 = .ok (.iload_n 2, 1) := by decide +kernel
theorem dX2_turn_14 : decode cX2_turn 14 = .ok (.bipush 10, 2) := by decide +kernel
theorem dX2_turn_16 : decode cX2_turn 16 = .ok (.imul, 1) := by decide +kernel
theorem dX2_turn_17 : decode cX2_turn 17 = .ok (.iload_n 3, 1) := by decide +kernel
theorem dX2_turn_18 : decode cX2_turn 18 = .ok (.bipush 10, 2) := by decide +kernel
theorem dX2_turn_20 : decode cX2_turn 20 = .ok (.irem, 1) := by decide +kernel
theorem dX2_turn_21 : decode cX2_turn 21 = .ok (.iadd, 1) := by decide +kernel
theorem dX2_turn_22 : decode cX2_turn 22 = .ok (.istore_n 2, 1) := by decide +kernel
theorem dX2_turn_23 : decode cX2_turn 23 = .ok (.iload_n 3, 1) := by decide +kernel
theorem dX2_turn_24 : decode cX2_turn 24 = .ok (.bipush 10, 2) := by decide +kernel
theorem dX2_turn_26 : decode cX2_turn 26 = .ok (.idiv, 1) := by decide +kernel
theorem dX2_turn_27 : decode cX2_turn 27 = .ok (.istore_n 3, 1) := by decide +kernel
theorem dX2_turn_28 : decode cX2_turn 28 = .ok (.iinc 4 (-1), 3) := by decide +kernel
theorem dX2_turn_31 : decode cX2_turn 31 = .ok (.goto (-24), 3) := by decide +kernel
theorem dX2_turn_34 : decode cX2_turn 34 = .ok (.iload_n 2, 1) := by decide +kernel
theorem dX2_turn_35 : decode cX2_turn 35 = .ok (.ireturn, 1) := by decide +kernel
theorem dX2_sort_0 : decode cX2_sort 0 = .ok (.iconst 0, 1) := by decide +kernel
theorem dX2_sort_1 : decode cX2_sort 1 = .ok (.istore_n 2, 1) := by decide +kernel
theorem dX2_sort_2 : decode cX2_sort 2 = .ok (.iconst 0, 1) := by decide +kernel
theorem dX2_sort_3 : decode cX2_sort 3 = .ok (.istore_n 3, 1) := by decide +kernel
theorem dX2_sort_4 : decode cX2_sort 4 = .ok (.iconst 1, 1) := by decide +kernel
theorem dX2_sort_5 : decode cX2_sort 5 = .ok (.istore 4, 2) := by decide +kernel
theorem dX2_sort_7 : decode cX2_sort 7 = .ok (.iload 4, 2) := by decide +kernel
theorem dX2_sort_9 : decode cX2_sort 9 = .ok (.iload_n 1, 1) := by decide +kernel
theorem dX2_sort_10 : decode cX2_sort 10 = .ok (.if_icmp .gt 57, 3) := by decide +kernel
theorem dX2_sort_13 : decode cX2_sort 13 = .ok (.iload_n 0, 1) := by decide +kernel
theorem dX2_sort_14 : decode cX2_sort 14 = .ok (.iload_n 1, 1) := by decide +kernel
theorem dX2_sort_15 : decode cX2_sort 15 = .ok (.iload 4, 2) := by decide +kernel
theorem dX2_sort_17 : decode cX2_sort 17 = .ok (.invokestatic 25, 3) := by decide +kernel
theorem dX2_sort_20 : decode cX2_sort 20 = .ok (.istore 5, 2) := by decide +kernel
theorem dX2_sort_22 : decode cX2_sort 22 = .ok (.iload_n 3, 1) := by decide +kernel
theorem dX2_sort_23 : decode cX2_sort 23 = .ok (.ifCond .le 30, 3) := by decide +kernel
theorem dX2_sort_26 : decode cX2_sort 26 = .ok (.iload_n 3, 1) := by decide +kernel
theorem dX2_sort_27 : decode cX2_sort 27 = .ok (.bipush 10, 2) := by decide +kernel
theorem dX2_sort_29 : decode cX2_sort 29 = .ok (.irem, 1) := by decide +kernel
theorem dX2_sort_30 : decode cX2_sort 30 = .ok (.iload 5, 2) := by decide +kernel
theorem dX2_sort_32 : decode cX2_sort 32 = .ok (.if_icmp .ge 21, 3) := by decide +kernel
theorem dX2_sort_35 : decode cX2_sort 35 = .ok (.iload_n 2, 1) := by decide +kernel
theorem dX2_sort_36 : decode cX2_sort 36 = .ok (.bipush 10, 2) := by decide +kernel
theorem dX2_sort_38 : decode cX2_sort 38 = .ok (.imul, 1) := by decide +kernel
theorem dX2_sort_39 : decode cX2_sort 39 = .ok (.iload_n 3, 1) := by decide +kernel
theorem dX2_sort_40 : decode cX2_sort 40 = .ok (.bipush 10, 2) := by decide +kernel
theorem dX2_sort_42 : decode cX2_sort 42 = .ok (.irem, 1) := by decide +kernel
theorem dX2_sort_43 : decode cX2_sort 43 = .ok (.iadd, 1) := by decide +kernel
theorem dX2_sort_44 : decode cX2_sort 44 = .ok (.istore_n 2, 1) := by decide +kernel
theorem dX2_sort_45 : decode cX2_sort 45 = .ok (.iload_n 3, 1) := by decide +kernel
theorem dX2_sort_46 : decode cX2_sort 46 = .ok (.bipush 10, 2) := by decide +kernel
theorem dX2_sort_48 : decode cX2_sort 48 = .ok (.idiv, 1) := by decide +kernel
theorem dX2_sort_49 : decode cX2_sort 49 = .ok (.istore_n 3, 1) := by decide +kernel
theorem dX2_sort_50 : decode cX2_sort 50 = .ok (.goto (-28), 3) := by decide +kernel
theorem dX2_sort_53 : decode cX2_sort 53 = .ok (.iload_n 3, 1) := by decide +kernel
theorem dX2_sort_54 : decode cX2_sort 54 = .ok (.bipush 10, 2) := by decide +kernel
theorem dX2_sort_56 : decode cX2_sort 56 = .ok (.imul, 1) := by decide +kernel
theorem dX2_sort_57 : decode cX2_sort 57 = .ok (.iload 5, 2) := by decide +kernel
theorem dX2_sort_59 : decode cX2_sort 59 = .ok (.iadd, 1) := by decide +kernel
theorem dX2_sort_60 : decode cX2_sort 60 = .ok (.istore_n 3, 1) := by decide +kernel
theorem dX2_sort_61 : decode cX2_sort 61 = .ok (.iinc 4 1, 3) := by decide +kernel
theorem dX2_sort_64 : decode cX2_sort 64 = .ok (.goto (-57), 3) := by decide +kernel
theorem dX2_sort_67 : decode cX2_sort 67 = .ok (.iload_n 3, 1) := by decide +kernel
theorem dX2_sort_68 : decode cX2_sort 68 = .ok (.ifCond .le 21, 3) := by decide +kernel
theorem dX2_sort_71 : decode cX2_sort 71 = .ok (.iload_n 2, 1) := by decide +kernel
theorem dX2_sort_72 : decode cX2_sort 72 = .ok (.bipush 10, 2) := by decide +kernel
theorem dX2_sort_74 : decode cX2_sort 74 = .ok (.imul, 1) := by decide +kernel
theorem dX2_sort_75 : decode cX2_sort 75 = .ok (.iload_n 3, 1) := by decide +kernel
theorem dX2_sort_76 : decode cX2_sort 76 = .ok (.bipush 10, 2) := by decide +kernel
theorem dX2_sort_78 : decode cX2_sort 78 = .ok (.irem, 1) := by decide +kernel
theorem dX2_sort_79 : decode cX2_sort 79 = .ok (.iadd, 1) := by decide +kernel
theorem dX2_sort_80 : decode cX2_sort 80 = .ok (.istore_n 2, 1) := by decide +kernel
theorem dX2_sort_81 : decode cX2_sort 81 = .ok (.iload_n 3, 1) := by decide +kernel
theorem dX2_sort_82 : decode cX2_sort 82 = .ok (.bipush 10, 2) := by decide +kernel
theorem dX2_sort_84 : decode cX2_sort 84 = .ok (.idiv, 1) := by decide +kernel
theorem dX2_sort_85 : decode cX2_sort 85 = .ok (.istore_n 3, 1) := by decide +kernel
theorem dX2_sort_86 : decode cX2_sort 86 = .ok (.goto (-19), 3) := by decide +kernel
theorem dX2_sort_89 : decode cX2_sort 89 = .ok (.iload_n 2, 1) := by decide +kernel
theorem dX2_sort_90 : decode cX2_sort 90 = .ok (.ireturn, 1) := by decide +kernel
theorem dX2_valueOf_0 : decode cX2_valueOf 0 = .ok (.iload_n 0, 1) := by decide +kernel
theorem dX2_valueOf_1 : decode cX2_valueOf 1 = .ok (.tableswitch 45 0 2 #[27, 33, 39], 27) := by decide +kernel
theorem dX2_valueOf_28 : decode cX2_valueOf 28 = .ok (.iload_n 1, 1) := by decide +kernel
theorem dX2_valueOf_29 : decode cX2_valueOf 29 = .ok (.iload_n 2, 1) := by decide +kernel
theorem dX2_valueOf_30 : decode cX2_valueOf 30 = .ok (.invokestatic 40, 3) := by decide +kernel
theorem dX2_valueOf_33 : decode cX2_valueOf 33 = .ok (.ireturn, 1) := by decide +kernel
theorem dX2_valueOf_34 : decode cX2_valueOf 34 = .ok (.iload_n 1, 1) := by decide +kernel
theorem dX2_valueOf_35 : decode cX2_valueOf 35 = .ok (.iload_n 2, 1) := by decide +kernel
theorem dX2_valueOf_36 : decode cX2_valueOf 36 = .ok (.invokestatic 43, 3) := by decide +kernel
theorem dX2_valueOf_39 : decode cX2_valueOf 39 = .ok (.ireturn, 1) := by decide +kernel
theorem dX2_valueOf_40 : decode cX2_valueOf 40 = .ok (.iload_n 1, 1) := by decide +kernel
theorem dX2_valueOf_41 : decode cX2_valueOf 41 = .ok (.iload_n 2, 1) := by decide +kernel
theorem dX2_valueOf_42 : decode cX2_valueOf 42 = .ok (.invokestatic 46, 3) := by decide +kernel
theorem dX2_valueOf_45 : decode cX2_valueOf 45 = .ok (.ireturn, 1) := by decide +kernel
theorem dX2_valueOf_46 : decode cX2_valueOf 46 = .ok (.iload_n 1, 1) := by decide +kernel
theorem dX2_valueOf_47 : decode cX2_valueOf 47 = .ok (.iload_n 2, 1) := by decide +kernel
theorem dX2_valueOf_48 : decode cX2_valueOf 48 = .ok (.invokestatic 49, 3) := by decide +kernel
theorem dX2_valueOf_51 : decode cX2_valueOf 51 = .ok (.ireturn, 1) := by decide +kernel
theorem dX2_drops_0 : decode cX2_drops 0 = .ok (.iconst 0, 1) := by decide +kernel
theorem dX2_drops_1 : decode cX2_drops 1 = .ok (.istore_n 2, 1) := by decide +kernel
theorem dX2_drops_2 : decode cX2_drops 2 = .ok (.iconst 2, 1) := by decide +kernel
theorem dX2_drops_3 : decode cX2_drops 3 = .ok (.istore_n 3, 1) := by decide +kernel
theorem dX2_drops_4 : decode cX2_drops 4 = .ok (.iload_n 3, 1) := by decide +kernel
theorem dX2_drops_5 : decode cX2_drops 5 = .ok (.iload_n 1, 1) := by decide +kernel
theorem dX2_drops_6 : decode cX2_drops 6 = .ok (.if_icmp .gt 29, 3) := by decide +kernel
theorem dX2_drops_9 : decode cX2_drops 9 = .ok (.iload_n 0, 1) := by decide +kernel
theorem dX2_drops_10 : decode cX2_drops 10 = .ok (.iload_n 1, 1) := by decide +kernel
theorem dX2_drops_11 : decode cX2_drops 11 = .ok (.iload_n 3, 1) := by decide +kernel
theorem dX2_drops_12 : decode cX2_drops 12 = .ok (.iconst 1, 1) := by decide +kernel
theorem dX2_drops_13 : decode cX2_drops 13 = .ok (.isub, 1) := by decide +kernel
theorem dX2_drops_14 : decode cX2_drops 14 = .ok (.invokestatic 25, 3) := by decide +kernel
theorem dX2_drops_17 : decode cX2_drops 17 = .ok (.iload_n 0, 1) := by decide +kernel
theorem dX2_drops_18 : decode cX2_drops 18 = .ok (.iload_n 1, 1) := by decide +kernel
theorem dX2_drops_19 : decode cX2_drops 19 = .ok (.iload_n 3, 1) := by decide +kernel
theorem dX2_drops_20 : decode cX2_drops 20 = .ok (.invokestatic 25, 3) := by decide +kernel
theorem dX2_drops_23 : decode cX2_drops 23 = .ok (.if_icmp .le 6, 3) := by decide +kernel
theorem dX2_drops_26 : decode cX2_drops 26 = .ok (.iinc 2 1, 3) := by decide +kernel
theorem dX2_drops_29 : decode cX2_drops 29 = .ok (.iinc 3 1, 3) := by decide +kernel
theorem dX2_drops_32 : decode cX2_drops 32 = .ok (.goto (-28), 3) := by decide +kernel
theorem dX2_drops_35 : decode cX2_drops 35 = .ok (.iload_n 2, 1) := by decide +kernel
theorem dX2_drops_36 : decode cX2_drops 36 = .ok (.ireturn, 1) := by decide +kernel
theorem dX2_inversions_0 : decode cX2_inversions 0 = .ok (.iconst 0, 1) := by decide +kernel
theorem dX2_inversions_1 : decode cX2_inversions 1 = .ok (.istore_n 2, 1) := by decide +kernel
theorem dX2_inversions_2 : decode cX2_inversions 2 = .ok (.iconst 2, 1) := by decide +kernel
theorem dX2_inversions_3 : decode cX2_inversions 3 = .ok (.istore_n 3, 1) := by decide +kernel
theorem dX2_inversions_4 : decode cX2_inversions 4 = .ok (.iload_n 3, 1) := by decide +kernel
theorem dX2_inversions_5 : decode cX2_inversions 5 = .ok (.iload_n 1, 1) := by decide +kernel
theorem dX2_inversions_6 : decode cX2_inversions 6 = .ok (.if_icmp .gt 43, 3) := by decide +kernel
theorem dX2_inversions_9 : decode cX2_inversions 9 = .ok (.iconst 1, 1) := by decide +kernel
theorem dX2_inversions_10 : decode cX2_inversions 10 = .ok (.istore 4, 2) := by decide +kernel
theorem dX2_inversions_12 : decode cX2_inversions 12 = .ok (.iload 4, 2) := by decide +kernel
theorem dX2_inversions_14 : decode cX2_inversions 14 = .ok (.iload_n 3, 1) := by decide +kernel
theorem dX2_inversions_15 : decode cX2_inversions 15 = .ok (.if_icmp .ge 28, 3) := by decide +kernel
theorem dX2_inversions_18 : decode cX2_inversions 18 = .ok (.iload_n 0, 1) := by decide +kernel
theorem dX2_inversions_19 : decode cX2_inversions 19 = .ok (.iload_n 1, 1) := by decide +kernel
theorem dX2_inversions_20 : decode cX2_inversions 20 = .ok (.iload 4, 2) := by decide +kernel
theorem dX2_inversions_22 : decode cX2_inversions 22 = .ok (.invokestatic 25, 3) := by decide +kernel
theorem dX2_inversions_25 : decode cX2_inversions 25 = .ok (.iload_n 0, 1) := by decide +kernel
theorem dX2_inversions_26 : decode cX2_inversions 26 = .ok (.iload_n 1, 1) := by decide +kernel
theorem dX2_inversions_27 : decode cX2_inversions 27 = .ok (.iload_n 3, 1) := by decide +kernel
theorem dX2_inversions_28 : decode cX2_inversions 28 = .ok (.invokestatic 25, 3) := by decide +kernel
theorem dX2_inversions_31 : decode cX2_inversions 31 = .ok (.if_icmp .le 6, 3) := by decide +kernel
theorem dX2_inversions_34 : decode cX2_inversions 34 = .ok (.iinc 2 1, 3) := by decide +kernel
theorem dX2_inversions_37 : decode cX2_inversions 37 = .ok (.iinc 4 1, 3) := by decide +kernel
theorem dX2_inversions_40 : decode cX2_inversions 40 = .ok (.goto (-28), 3) := by decide +kernel
theorem dX2_inversions_43 : decode cX2_inversions 43 = .ok (.iinc 3 1, 3) := by decide +kernel
theorem dX2_inversions_46 : decode cX2_inversions 46 = .ok (.goto (-42), 3) := by decide +kernel
theorem dX2_inversions_49 : decode cX2_inversions 49 = .ok (.iload_n 2, 1) := by decide +kernel
theorem dX2_inversions_50 : decode cX2_inversions 50 = .ok (.ireturn, 1) := by decide +kernel
theorem dX2_records_0 : decode cX2_records 0 = .ok (.iconst 0, 1) := by decide +kernel
theorem dX2_records_1 : decode cX2_records 1 = .ok (.istore_n 2, 1) := by decide +kernel
theorem dX2_records_2 : decode cX2_records 2 = .ok (.iconst 0, 1) := by decide +kernel
theorem dX2_records_3 : decode cX2_records 3 = .ok (.istore_n 3, 1) := by decide +kernel
theorem dX2_records_4 : decode cX2_records 4 = .ok (.iconst 1, 1) := by decide +kernel
theorem dX2_records_5 : decode cX2_records 5 = .ok (.istore 4, 2) := by decide +kernel
theorem dX2_records_7 : decode cX2_records 7 = .ok (.iload 4, 2) := by decide +kernel
theorem dX2_records_9 : decode cX2_records 9 = .ok (.iload_n 1, 1) := by decide +kernel
theorem dX2_records_10 : decode cX2_records 10 = .ok (.if_icmp .gt 30, 3) := by decide +kernel
theorem dX2_records_13 : decode cX2_records 13 = .ok (.iload_n 0, 1) := by decide +kernel
theorem dX2_records_14 : decode cX2_records 14 = .ok (.iload_n 1, 1) := by decide +kernel
theorem dX2_records_15 : decode cX2_records 15 = .ok (.iload 4, 2) := by decide +kernel
theorem dX2_records_17 : decode cX2_records 17 = .ok (.invokestatic 25, 3) := by decide +kernel
theorem dX2_records_20 : decode cX2_records 20 = .ok (.istore 5, 2) := by decide +kernel
theorem dX2_records_22 : decode cX2_records 22 = .ok (.iload 5, 2) := by decide +kernel
theorem dX2_records_24 : decode cX2_records 24 = .ok (.iload_n 3, 1) := by decide +kernel
theorem dX2_records_25 : decode cX2_records 25 = .ok (.if_icmp .le 9, 3) := by decide +kernel
theorem dX2_records_28 : decode cX2_records 28 = .ok (.iload 5, 2) := by decide +kernel
theorem dX2_records_30 : decode cX2_records 30 = .ok (.istore_n 3, 1) := by decide +kernel
theorem dX2_records_31 : decode cX2_records 31 = .ok (.iinc 2 1, 3) := by decide +kernel
theorem dX2_records_34 : decode cX2_records 34 = .ok (.iinc 4 1, 3) := by decide +kernel
theorem dX2_records_37 : decode cX2_records 37 = .ok (.goto (-30), 3) := by decide +kernel
theorem dX2_records_40 : decode cX2_records 40 = .ok (.iload_n 2, 1) := by decide +kernel
theorem dX2_records_41 : decode cX2_records 41 = .ok (.ireturn, 1) := by decide +kernel
theorem dX2_unmoved_0 : decode cX2_unmoved 0 = .ok (.iconst 0, 1) := by decide +kernel
theorem dX2_unmoved_1 : decode cX2_unmoved 1 = .ok (.istore_n 2, 1) := by decide +kernel
theorem dX2_unmoved_2 : decode cX2_unmoved 2 = .ok (.iconst 1, 1) := by decide +kernel
theorem dX2_unmoved_3 : decode cX2_unmoved 3 = .ok (.istore_n 3, 1) := by decide +kernel
theorem dX2_unmoved_4 : decode cX2_unmoved 4 = .ok (.iload_n 3, 1) := by decide +kernel
theorem dX2_unmoved_5 : decode cX2_unmoved 5 = .ok (.iload_n 1, 1) := by decide +kernel
theorem dX2_unmoved_6 : decode cX2_unmoved 6 = .ok (.if_icmp .gt 22, 3) := by decide +kernel
theorem dX2_unmoved_9 : decode cX2_unmoved 9 = .ok (.iload_n 0, 1) := by decide +kernel
theorem dX2_unmoved_10 : decode cX2_unmoved 10 = .ok (.iload_n 1, 1) := by decide +kernel
theorem dX2_unmoved_11 : decode cX2_unmoved 11 = .ok (.iload_n 3, 1) := by decide +kernel
theorem dX2_unmoved_12 : decode cX2_unmoved 12 = .ok (.invokestatic 25, 3) := by decide +kernel
theorem dX2_unmoved_15 : decode cX2_unmoved 15 = .ok (.iload_n 3, 1) := by decide +kernel
theorem dX2_unmoved_16 : decode cX2_unmoved 16 = .ok (.if_icmp .ne 6, 3) := by decide +kernel
theorem dX2_unmoved_19 : decode cX2_unmoved 19 = .ok (.iinc 2 1, 3) := by decide +kernel
theorem dX2_unmoved_22 : decode cX2_unmoved 22 = .ok (.iinc 3 1, 3) := by decide +kernel
theorem dX2_unmoved_25 : decode cX2_unmoved 25 = .ok (.goto (-21), 3) := by decide +kernel
theorem dX2_unmoved_28 : decode cX2_unmoved 28 = .ok (.iload_n 2, 1) := by decide +kernel
theorem dX2_unmoved_29 : decode cX2_unmoved 29 = .ok (.ireturn, 1) := by decide +kernel
theorem dX2_timesContained_0 : decode cX2_timesContained 0 = .ok (.iconst 0, 1) := by decide +kernel
theorem dX2_timesContained_1 : decode cX2_timesContained 1 = .ok (.istore 4, 2) := by decide +kernel
theorem dX2_timesContained_3 : decode cX2_timesContained 3 = .ok (.iconst 0, 1) := by decide +kernel
theorem dX2_timesContained_4 : decode cX2_timesContained 4 = .ok (.istore 5, 2) := by decide +kernel
theorem dX2_timesContained_6 : decode cX2_timesContained 6 = .ok (.iload 5, 2) := by decide +kernel
theorem dX2_timesContained_8 : decode cX2_timesContained 8 = .ok (.iconst 1, 1) := by decide +kernel
theorem dX2_timesContained_9 : decode cX2_timesContained 9 = .ok (.iload_n 1, 1) := by decide +kernel
theorem dX2_timesContained_10 : decode cX2_timesContained 10 = .ok (.ishl, 1) := by decide +kernel
theorem dX2_timesContained_11 : decode cX2_timesContained 11 = .ok (.if_icmp .ge 36, 3) := by decide +kernel
theorem dX2_timesContained_14 : decode cX2_timesContained 14 = .ok (.iload 5, 2) := by decide +kernel
theorem dX2_timesContained_16 : decode cX2_timesContained 16 = .ok (.invokestatic 52, 3) := by decide +kernel
theorem dX2_timesContained_19 : decode cX2_timesContained 19 = .ok (.iload_n 3, 1) := by decide +kernel
theorem dX2_timesContained_20 : decode cX2_timesContained 20 = .ok (.if_icmp .ne 21, 3) := by decide +kernel
theorem dX2_timesContained_23 : decode cX2_timesContained 23 = .ok (.iload_n 0, 1) := by decide +kernel
theorem dX2_timesContained_24 : decode cX2_timesContained 24 = .ok (.iload_n 1, 1) := by decide +kernel
theorem dX2_timesContained_25 : decode cX2_timesContained 25 = .ok (.iload 5, 2) := by decide +kernel
theorem dX2_timesContained_27 : decode cX2_timesContained 27 = .ok (.invokestatic 58, 3) := by decide +kernel
theorem dX2_timesContained_30 : decode cX2_timesContained 30 = .ok (.iload_n 3, 1) := by decide +kernel
theorem dX2_timesContained_31 : decode cX2_timesContained 31 = .ok (.invokestatic 61, 3) := by decide +kernel
theorem dX2_timesContained_34 : decode cX2_timesContained 34 = .ok (.iload_n 2, 1) := by decide +kernel
theorem dX2_timesContained_35 : decode cX2_timesContained 35 = .ok (.if_icmp .ne 6, 3) := by decide +kernel
theorem dX2_timesContained_38 : decode cX2_timesContained 38 = .ok (.iinc 4 1, 3) := by decide +kernel
theorem dX2_timesContained_41 : decode cX2_timesContained 41 = .ok (.iinc 5 1, 3) := by decide +kernel
theorem dX2_timesContained_44 : decode cX2_timesContained 44 = .ok (.goto (-38), 3) := by decide +kernel
theorem dX2_timesContained_47 : decode cX2_timesContained 47 = .ok (.iload 4, 2) := by decide +kernel
theorem dX2_timesContained_49 : decode cX2_timesContained 49 = .ok (.ireturn, 1) := by decide +kernel
theorem dX2_chosen_0 : decode cX2_chosen 0 = .ok (.iconst 0, 1) := by decide +kernel
theorem dX2_chosen_1 : decode cX2_chosen 1 = .ok (.istore_n 3, 1) := by decide +kernel
theorem dX2_chosen_2 : decode cX2_chosen 2 = .ok (.iconst 1, 1) := by decide +kernel
theorem dX2_chosen_3 : decode cX2_chosen 3 = .ok (.istore 4, 2) := by decide +kernel
theorem dX2_chosen_5 : decode cX2_chosen 5 = .ok (.iload 4, 2) := by decide +kernel
theorem dX2_chosen_7 : decode cX2_chosen 7 = .ok (.iload_n 1, 1) := by decide +kernel
theorem dX2_chosen_8 : decode cX2_chosen 8 = .ok (.if_icmp .gt 34, 3) := by decide +kernel
theorem dX2_chosen_11 : decode cX2_chosen 11 = .ok (.iload_n 2, 1) := by decide +kernel
theorem dX2_chosen_12 : decode cX2_chosen 12 = .ok (.iload 4, 2) := by decide +kernel
theorem dX2_chosen_14 : decode cX2_chosen 14 = .ok (.iconst 1, 1) := by decide +kernel
theorem dX2_chosen_15 : decode cX2_chosen 15 = .ok (.isub, 1) := by decide +kernel
theorem dX2_chosen_16 : decode cX2_chosen 16 = .ok (.ishr, 1) := by decide +kernel
theorem dX2_chosen_17 : decode cX2_chosen 17 = .ok (.iconst 1, 1) := by decide +kernel
theorem dX2_chosen_18 : decode cX2_chosen 18 = .ok (.iand, 1) := by decide +kernel
theorem dX2_chosen_19 : decode cX2_chosen 19 = .ok (.iconst 1, 1) := by decide +kernel
theorem dX2_chosen_20 : decode cX2_chosen 20 = .ok (.if_icmp .ne 16, 3) := by decide +kernel
theorem dX2_chosen_23 : decode cX2_chosen 23 = .ok (.iload_n 3, 1) := by decide +kernel
theorem dX2_chosen_24 : decode cX2_chosen 24 = .ok (.bipush 10, 2) := by decide +kernel
theorem dX2_chosen_26 : decode cX2_chosen 26 = .ok (.imul, 1) := by decide +kernel
theorem dX2_chosen_27 : decode cX2_chosen 27 = .ok (.iload_n 0, 1) := by decide +kernel
theorem dX2_chosen_28 : decode cX2_chosen 28 = .ok (.iload_n 1, 1) := by decide +kernel
theorem dX2_chosen_29 : decode cX2_chosen 29 = .ok (.iload 4, 2) := by decide +kernel
theorem dX2_chosen_31 : decode cX2_chosen 31 = .ok (.invokestatic 25, 3) := by decide +kernel
theorem dX2_chosen_34 : decode cX2_chosen 34 = .ok (.iadd, 1) := by decide +kernel
theorem dX2_chosen_35 : decode cX2_chosen 35 = .ok (.istore_n 3, 1) := by decide +kernel
theorem dX2_chosen_36 : decode cX2_chosen 36 = .ok (.iinc 4 1, 3) := by decide +kernel
theorem dX2_chosen_39 : decode cX2_chosen 39 = .ok (.goto (-34), 3) := by decide +kernel
theorem dX2_chosen_42 : decode cX2_chosen 42 = .ok (.iload_n 3, 1) := by decide +kernel
theorem dX2_chosen_43 : decode cX2_chosen 43 = .ok (.ireturn, 1) := by decide +kernel
theorem dX2_patternOf_0 : decode cX2_patternOf 0 = .ok (.iconst 0, 1) := by decide +kernel
theorem dX2_patternOf_1 : decode cX2_patternOf 1 = .ok (.istore_n 2, 1) := by decide +kernel
theorem dX2_patternOf_2 : decode cX2_patternOf 2 = .ok (.iconst 1, 1) := by decide +kernel
theorem dX2_patternOf_3 : decode cX2_patternOf 3 = .ok (.istore_n 3, 1) := by decide +kernel
theorem dX2_patternOf_4 : decode cX2_patternOf 4 = .ok (.iload_n 3, 1) := by decide +kernel
theorem dX2_patternOf_5 : decode cX2_patternOf 5 = .ok (.iload_n 1, 1) := by decide +kernel
theorem dX2_patternOf_6 : decode cX2_patternOf 6 = .ok (.if_icmp .gt 54, 3) := by decide +kernel
theorem dX2_patternOf_9 : decode cX2_patternOf 9 = .ok (.iconst 1, 1) := by decide +kernel
theorem dX2_patternOf_10 : decode cX2_patternOf 10 = .ok (.istore 4, 2) := by decide +kernel
theorem dX2_patternOf_12 : decode cX2_patternOf 12 = .ok (.iconst 1, 1) := by decide +kernel
theorem dX2_patternOf_13 : decode cX2_patternOf 13 = .ok (.istore 5, 2) := by decide +kernel
theorem dX2_patternOf_15 : decode cX2_patternOf 15 = .ok (.iload 5, 2) := by decide +kernel
theorem dX2_patternOf_17 : decode cX2_patternOf 17 = .ok (.iload_n 1, 1) := by decide +kernel
theorem dX2_patternOf_18 : decode cX2_patternOf 18 = .ok (.if_icmp .gt 28, 3) := by decide +kernel
theorem dX2_patternOf_21 : decode cX2_patternOf 21 = .ok (.iload_n 0, 1) := by decide +kernel
theorem dX2_patternOf_22 : decode cX2_patternOf 22 = .ok (.iload_n 1, 1) := by decide +kernel
theorem dX2_patternOf_23 : decode cX2_patternOf 23 = .ok (.iload 5, 2) := by decide +kernel
theorem dX2_patternOf_25 : decode cX2_patternOf 25 = .ok (.invokestatic 25, 3) := by decide +kernel
theorem dX2_patternOf_28 : decode cX2_patternOf 28 = .ok (.iload_n 0, 1) := by decide +kernel
theorem dX2_patternOf_29 : decode cX2_patternOf 29 = .ok (.iload_n 1, 1) := by decide +kernel
theorem dX2_patternOf_30 : decode cX2_patternOf 30 = .ok (.iload_n 3, 1) := by decide +kernel
theorem dX2_patternOf_31 : decode cX2_patternOf 31 = .ok (.invokestatic 25, 3) := by decide +kernel
theorem dX2_patternOf_34 : decode cX2_patternOf 34 = .ok (.if_icmp .ge 6, 3) := by decide +kernel
theorem dX2_patternOf_37 : decode cX2_patternOf 37 = .ok (.iinc 4 1, 3) := by decide +kernel
theorem dX2_patternOf_40 : decode cX2_patternOf 40 = .ok (.iinc 5 1, 3) := by decide +kernel
theorem dX2_patternOf_43 : decode cX2_patternOf 43 = .ok (.goto (-28), 3) := by decide +kernel
theorem dX2_patternOf_46 : decode cX2_patternOf 46 = .ok (.iload_n 2, 1) := by decide +kernel
theorem dX2_patternOf_47 : decode cX2_patternOf 47 = .ok (.bipush 10, 2) := by decide +kernel
theorem dX2_patternOf_49 : decode cX2_patternOf 49 = .ok (.imul, 1) := by decide +kernel
theorem dX2_patternOf_50 : decode cX2_patternOf 50 = .ok (.iload 4, 2) := by decide +kernel
theorem dX2_patternOf_52 : decode cX2_patternOf 52 = .ok (.iadd, 1) := by decide +kernel
theorem dX2_patternOf_53 : decode cX2_patternOf 53 = .ok (.istore_n 2, 1) := by decide +kernel
theorem dX2_patternOf_54 : decode cX2_patternOf 54 = .ok (.iinc 3 1, 3) := by decide +kernel
theorem dX2_patternOf_57 : decode cX2_patternOf 57 = .ok (.goto (-53), 3) := by decide +kernel
theorem dX2_patternOf_60 : decode cX2_patternOf 60 = .ok (.iload_n 2, 1) := by decide +kernel
theorem dX2_patternOf_61 : decode cX2_patternOf 61 = .ok (.ireturn, 1) := by decide +kernel
theorem dX7_node_0 : decode cX7_node 0 = .ok (.iconst 1, 1) := by decide +kernel
theorem dX7_node_1 : decode cX7_node 1 = .ok (.iconst 2, 1) := by decide +kernel
theorem dX7_node_2 : decode cX7_node 2 = .ok (.iload_n 1, 1) := by decide +kernel
theorem dX7_node_3 : decode cX7_node 3 = .ok (.imul, 1) := by decide +kernel
theorem dX7_node_4 : decode cX7_node 4 = .ok (.ishl, 1) := by decide +kernel
theorem dX7_node_5 : decode cX7_node 5 = .ok (.iload_n 0, 1) := by decide +kernel
theorem dX7_node_6 : decode cX7_node 6 = .ok (.ior, 1) := by decide +kernel
theorem dX7_node_7 : decode cX7_node 7 = .ok (.iconst 1, 1) := by decide +kernel
theorem dX7_node_8 : decode cX7_node 8 = .ok (.ishl, 1) := by decide +kernel
theorem dX7_node_9 : decode cX7_node 9 = .ok (.iconst 2, 1) := by decide +kernel
theorem dX7_node_10 : decode cX7_node 10 = .ok (.iload_n 3, 1) := by decide +kernel
theorem dX7_node_11 : decode cX7_node 11 = .ok (.imul, 1) := by decide +kernel
theorem dX7_node_12 : decode cX7_node 12 = .ok (.ishl, 1) := by decide +kernel
theorem dX7_node_13 : decode cX7_node 13 = .ok (.iload_n 2, 1) := by decide +kernel
theorem dX7_node_14 : decode cX7_node 14 = .ok (.ior, 1) := by decide +kernel
theorem dX7_node_15 : decode cX7_node 15 = .ok (.ireturn, 1) := by decide +kernel
theorem dX7_leftOf_0 : decode cX7_leftOf 0 = .ok (.iload_n 0, 1) := by decide +kernel
theorem dX7_leftOf_1 : decode cX7_leftOf 1 = .ok (.iconst 2, 1) := by decide +kernel
theorem dX7_leftOf_2 : decode cX7_leftOf 2 = .ok (.iload_n 1, 1) := by decide +kernel
theorem dX7_leftOf_3 : decode cX7_leftOf 3 = .ok (.iload_n 2, 1) := by decide +kernel
theorem dX7_leftOf_4 : decode cX7_leftOf 4 = .ok (.isub, 1) := by decide +kernel
theorem dX7_leftOf_5 : decode cX7_leftOf 5 = .ok (.imul, 1) := by decide +kernel
theorem dX7_leftOf_6 : decode cX7_leftOf 6 = .ok (.iconst 1, 1) := by decide +kernel
theorem dX7_leftOf_7 : decode cX7_leftOf 7 = .ok (.isub, 1) := by decide +kernel
theorem dX7_leftOf_8 : decode cX7_leftOf 8 = .ok (.iconst 2, 1) := by decide +kernel
theorem dX7_leftOf_9 : decode cX7_leftOf 9 = .ok (.iload_n 2, 1) := by decide +kernel
theorem dX7_leftOf_10 : decode cX7_leftOf 10 = .ok (.imul, 1) := by decide +kernel
theorem dX7_leftOf_11 : decode cX7_leftOf 11 = .ok (.invokestatic 9, 3) := by decide +kernel
theorem dX7_leftOf_14 : decode cX7_leftOf 14 = .ok (.ireturn, 1) := by decide +kernel
theorem dX7_rightOf_0 : decode cX7_rightOf 0 = .ok (.iload_n 0, 1) := by decide +kernel
theorem dX7_rightOf_1 : decode cX7_rightOf 1 = .ok (.iconst 0, 1) := by decide +kernel
theorem dX7_rightOf_2 : decode cX7_rightOf 2 = .ok (.iconst 2, 1) := by decide +kernel
theorem dX7_rightOf_3 : decode cX7_rightOf 3 = .ok (.iload_n 1, 1) := by decide +kernel
theorem dX7_rightOf_4 : decode cX7_rightOf 4 = .ok (.imul, 1) := by decide +kernel
theorem dX7_rightOf_5 : decode cX7_rightOf 5 = .ok (.invokestatic 9, 3) := by decide +kernel
theorem dX7_rightOf_8 : decode cX7_rightOf 8 = .ok (.ireturn, 1) := by decide +kernel
theorem dX7_mirror_0 : decode cX7_mirror 0 = .ok (.iload_n 1, 1) := by decide +kernel
theorem dX7_mirror_1 : decode cX7_mirror 1 = .ok (.iconst 1, 1) := by decide +kernel
theorem dX7_mirror_2 : decode cX7_mirror 2 = .ok (.if_icmp .lt 9, 3) := by decide +kernel
theorem dX7_mirror_5 : decode cX7_mirror 5 = .ok (.iload_n 1, 1) := by decide +kernel
theorem dX7_mirror_6 : decode cX7_mirror 6 = .ok (.bipush 6, 2) := by decide +kernel
theorem dX7_mirror_8 : decode cX7_mirror 8 = .ok (.if_icmp .le 5, 3) := by decide +kernel
theorem dX7_mirror_11 : decode cX7_mirror 11 = .ok (.iconst 0, 1) := by decide +kernel
theorem dX7_mirror_12 : decode cX7_mirror 12 = .ok (.ireturn, 1) := by decide +kernel
theorem dX7_mirror_13 : decode cX7_mirror 13 = .ok (.iload_n 0, 1) := by decide +kernel
theorem dX7_mirror_14 : decode cX7_mirror 14 = .ok (.iload_n 1, 1) := by decide +kernel
theorem dX7_mirror_15 : decode cX7_mirror 15 = .ok (.invokestatic 15, 3) := by decide +kernel
theorem dX7_mirror_18 : decode cX7_mirror 18 = .ok (.istore_n 2, 1) := by decide +kernel
theorem dX7_mirror_19 : decode cX7_mirror 19 = .ok (.iload_n 1, 1) := by decide +kernel
theorem dX7_mirror_20 : decode cX7_mirror 20 = .ok (.iconst 1, 1) := by decide +kernel
theorem dX7_mirror_21 : decode cX7_mirror 21 = .ok (.isub, 1) := by decide +kernel
theorem dX7_mirror_22 : decode cX7_mirror 22 = .ok (.iload_n 2, 1) := by decide +kernel
theorem dX7_mirror_23 : decode cX7_mirror 23 = .ok (.isub, 1) := by decide +kernel
theorem dX7_mirror_24 : decode cX7_mirror 24 = .ok (.istore_n 3, 1) := by decide +kernel
theorem dX7_mirror_25 : decode cX7_mirror 25 = .ok (.iload_n 0, 1) := by decide +kernel
theorem dX7_mirror_26 : decode cX7_mirror 26 = .ok (.iload_n 1, 1) := by decide +kernel
theorem dX7_mirror_27 : decode cX7_mirror 27 = .ok (.iload_n 2, 1) := by decide +kernel
theorem dX7_mirror_28 : decode cX7_mirror 28 = .ok (.invokestatic 19, 3) := by decide +kernel
theorem dX7_mirror_31 : decode cX7_mirror 31 = .ok (.iload_n 2, 1) := by decide +kernel
theorem dX7_mirror_32 : decode cX7_mirror 32 = .ok (.invokestatic 24, 3) := by decide +kernel
theorem dX7_mirror_35 : decode cX7_mirror 35 = .ok (.istore 4, 2) := by decide +kernel
theorem dX7_mirror_37 : decode cX7_mirror 37 = .ok (.iload_n 0, 1) := by decide +kernel
theorem dX7_mirror_38 : decode cX7_mirror 38 = .ok (.iload_n 3, 1) := by decide +kernel
theorem dX7_mirror_39 : decode cX7_mirror 39 = .ok (.invokestatic 27, 3) := by decide +kernel
theorem dX7_mirror_42 : decode cX7_mirror 42 = .ok (.iload_n 3, 1) := by decide +kernel
theorem dX7_mirror_43 : decode cX7_mirror 43 = .ok (.invokestatic 24, 3) := by decide +kernel
theorem dX7_mirror_46 : decode cX7_mirror 46 = .ok (.istore 5, 2) := by decide +kernel
theorem dX7_mirror_48 : decode cX7_mirror 48 = .ok (.iload 5, 2) := by decide +kernel
theorem dX7_mirror_50 : decode cX7_mirror 50 = .ok (.iload_n 3, 1) := by decide +kernel
theorem dX7_mirror_51 : decode cX7_mirror 51 = .ok (.iload 4, 2) := by decide +kernel
theorem dX7_mirror_53 : decode cX7_mirror 53 = .ok (.iload_n 2, 1) := by decide +kernel
theorem dX7_mirror_54 : decode cX7_mirror 54 = .ok (.invokestatic 30, 3) := by decide +kernel
theorem dX7_mirror_57 : decode cX7_mirror 57 = .ok (.ireturn, 1) := by decide +kernel
theorem dX7_label_0 : decode cX7_label 0 = .ok (.iload_n 1, 1) := by decide +kernel
theorem dX7_label_1 : decode cX7_label 1 = .ok (.iconst 1, 1) := by decide +kernel
theorem dX7_label_2 : decode cX7_label 2 = .ok (.if_icmp .lt 9, 3) := by decide +kernel
theorem dX7_label_5 : decode cX7_label 5 = .ok (.iload_n 1, 1) := by decide +kernel
theorem dX7_label_6 : decode cX7_label 6 = .ok (.bipush 6, 2) := by decide +kernel
theorem dX7_label_8 : decode cX7_label 8 = .ok (.if_icmp .le 5, 3) := by decide +kernel
theorem dX7_label_11 : decode cX7_label 11 = .ok (.iconst 0, 1) := by decide +kernel
theorem dX7_label_12 : decode cX7_label 12 = .ok (.ireturn, 1) := by decide +kernel
theorem dX7_label_13 : decode cX7_label 13 = .ok (.iload_n 0, 1) := by decide +kernel
theorem dX7_label_14 : decode cX7_label 14 = .ok (.iload_n 1, 1) := by decide +kernel
theorem dX7_label_15 : decode cX7_label 15 = .ok (.invokestatic 15, 3) := by decide +kernel
theorem dX7_label_18 : decode cX7_label 18 = .ok (.istore_n 3, 1) := by decide +kernel
theorem dX7_label_19 : decode cX7_label 19 = .ok (.iload_n 1, 1) := by decide +kernel
theorem dX7_label_20 : decode cX7_label 20 = .ok (.iconst 1, 1) := by decide +kernel
theorem dX7_label_21 : decode cX7_label 21 = .ok (.isub, 1) := by decide +kernel
theorem dX7_label_22 : decode cX7_label 22 = .ok (.iload_n 3, 1) := by decide +kernel
theorem dX7_label_23 : decode cX7_label 23 = .ok (.isub, 1) := by decide +kernel
theorem dX7_label_24 : decode cX7_label 24 = .ok (.istore 4, 2) := by decide +kernel
theorem dX7_label_26 : decode cX7_label 26 = .ok (.iload_n 0, 1) := by decide +kernel
theorem dX7_label_27 : decode cX7_label 27 = .ok (.iload_n 1, 1) := by decide +kernel
theorem dX7_label_28 : decode cX7_label 28 = .ok (.iload_n 3, 1) := by decide +kernel
theorem dX7_label_29 : decode cX7_label 29 = .ok (.invokestatic 19, 3) := by decide +kernel
theorem dX7_label_32 : decode cX7_label 32 = .ok (.iload_n 3, 1) := by decide +kernel
theorem dX7_label_33 : decode cX7_label 33 = .ok (.iload_n 2, 1) := by decide +kernel
theorem dX7_label_34 : decode cX7_label 34 = .ok (.invokestatic 34, 3) := by decide +kernel
theorem dX7_label_37 : decode cX7_label 37 = .ok (.istore 5, 2) := by decide +kernel
theorem dX7_label_39 : decode cX7_label 39 = .ok (.iload_n 0, 1) := by decide +kernel
theorem dX7_label_40 : decode cX7_label 40 = .ok (.iload 4, 2) := by decide +kernel
theorem dX7_label_42 : decode cX7_label 42 = .ok (.invokestatic 27, 3) := by decide +kernel
theorem dX7_label_45 : decode cX7_label 45 = .ok (.iload 4, 2) := by decide +kernel
theorem dX7_label_47 : decode cX7_label 47 = .ok (.iload_n 2, 1) := by decide +kernel
theorem dX7_label_48 : decode cX7_label 48 = .ok (.iload_n 3, 1) := by decide +kernel
theorem dX7_label_49 : decode cX7_label 49 = .ok (.iadd, 1) := by decide +kernel
theorem dX7_label_50 : decode cX7_label 50 = .ok (.invokestatic 34, 3) := by decide +kernel
theorem dX7_label_53 : decode cX7_label 53 = .ok (.istore 6, 2) := by decide +kernel
theorem dX7_label_55 : decode cX7_label 55 = .ok (.iload 5, 2) := by decide +kernel
theorem dX7_label_57 : decode cX7_label 57 = .ok (.bipush 10, 2) := by decide +kernel
theorem dX7_label_59 : decode cX7_label 59 = .ok (.imul, 1) := by decide +kernel
theorem dX7_label_60 : decode cX7_label 60 = .ok (.iload_n 1, 1) := by decide +kernel
theorem dX7_label_61 : decode cX7_label 61 = .ok (.iadd, 1) := by decide +kernel
theorem dX7_label_62 : decode cX7_label 62 = .ok (.iload_n 2, 1) := by decide +kernel
theorem dX7_label_63 : decode cX7_label 63 = .ok (.iadd, 1) := by decide +kernel
theorem dX7_label_64 : decode cX7_label 64 = .ok (.getstatic 37, 3) := by decide +kernel
theorem dX7_label_67 : decode cX7_label 67 = .ok (.iload 4, 2) := by decide +kernel
theorem dX7_label_69 : decode cX7_label 69 = .ok (.invokestatic 41, 3) := by decide +kernel
theorem dX7_label_72 : decode cX7_label 72 = .ok (.imul, 1) := by decide +kernel
theorem dX7_label_73 : decode cX7_label 73 = .ok (.iload 6, 2) := by decide +kernel
theorem dX7_label_75 : decode cX7_label 75 = .ok (.iadd, 1) := by decide +kernel
theorem dX7_label_76 : decode cX7_label 76 = .ok (.ireturn, 1) := by decide +kernel
theorem dX7_valueOf_0 : decode cX7_valueOf 0 = .ok (.iload_n 2, 1) := by decide +kernel
theorem dX7_valueOf_1 : decode cX7_valueOf 1 = .ok (.iconst 1, 1) := by decide +kernel
theorem dX7_valueOf_2 : decode cX7_valueOf 2 = .ok (.if_icmp .lt 9, 3) := by decide +kernel
theorem dX7_valueOf_5 : decode cX7_valueOf 5 = .ok (.iload_n 2, 1) := by decide +kernel
theorem dX7_valueOf_6 : decode cX7_valueOf 6 = .ok (.bipush 6, 2) := by decide +kernel
theorem dX7_valueOf_8 : decode cX7_valueOf 8 = .ok (.if_icmp .le 5, 3) := by decide +kernel
theorem dX7_valueOf_11 : decode cX7_valueOf 11 = .ok (.iconst 0, 1) := by decide +kernel
theorem dX7_valueOf_12 : decode cX7_valueOf 12 = .ok (.ireturn, 1) := by decide +kernel
theorem dX7_valueOf_13 : decode cX7_valueOf 13 = .ok (.iload_n 1, 1) := by decide +kernel
theorem dX7_valueOf_14 : decode cX7_valueOf 14 = .ok (.iload_n 2, 1) := by decide +kernel
theorem dX7_valueOf_15 : decode cX7_valueOf 15 = .ok (.invokestatic 15, 3) := by decide +kernel
theorem dX7_valueOf_18 : decode cX7_valueOf 18 = .ok (.istore_n 3, 1) := by decide +kernel
theorem dX7_valueOf_19 : decode cX7_valueOf 19 = .ok (.iload_n 2, 1) := by decide +kernel
theorem dX7_valueOf_20 : decode cX7_valueOf 20 = .ok (.iconst 1, 1) := by decide +kernel
theorem dX7_valueOf_21 : decode cX7_valueOf 21 = .ok (.isub, 1) := by decide +kernel
theorem dX7_valueOf_22 : decode cX7_valueOf 22 = .ok (.iload_n 3, 1) := by decide +kernel
theorem dX7_valueOf_23 : decode cX7_valueOf 23 = .ok (.isub, 1) := by decide +kernel
theorem dX7_valueOf_24 : decode cX7_valueOf 24 = .ok (.istore 4, 2) := by decide +kernel
theorem dX7_valueOf_26 : decode cX7_valueOf 26 = .ok (.iload_n 0, 1) := by decide +kernel
theorem dX7_valueOf_27 : decode cX7_valueOf 27 = .ok (.iload_n 1, 1) := by decide +kernel
theorem dX7_valueOf_28 : decode cX7_valueOf 28 = .ok (.iload_n 2, 1) := by decide +kernel
theorem dX7_valueOf_29 : decode cX7_valueOf 29 = .ok (.iload_n 3, 1) := by decide +kernel
theorem dX7_valueOf_30 : decode cX7_valueOf 30 = .ok (.invokestatic 19, 3) := by decide +kernel
theorem dX7_valueOf_33 : decode cX7_valueOf 33 = .ok (.iload_n 3, 1) := by decide +kernel
theorem dX7_valueOf_34 : decode cX7_valueOf 34 = .ok (.invokestatic 47, 3) := by decide +kernel
theorem dX7_valueOf_37 : decode cX7_valueOf 37 = .ok (.istore 5, 2) := by decide +kernel
theorem dX7_valueOf_39 : decode cX7_valueOf 39 = .ok (.iload_n 0, 1) := by decide +kernel
theorem dX7_valueOf_40 : decode cX7_valueOf 40 = .ok (.iload_n 1, 1) := by decide +kernel
theorem dX7_valueOf_41 : decode cX7_valueOf 41 = .ok (.iload 4, 2) := by decide +kernel
theorem dX7_valueOf_43 : decode cX7_valueOf 43 = .ok (.invokestatic 27, 3) := by decide +kernel
theorem dX7_valueOf_46 : decode cX7_valueOf 46 = .ok (.iload 4, 2) := by decide +kernel
theorem dX7_valueOf_48 : decode cX7_valueOf 48 = .ok (.invokestatic 47, 3) := by decide +kernel
theorem dX7_valueOf_51 : decode cX7_valueOf 51 = .ok (.istore 6, 2) := by decide +kernel
theorem dX7_valueOf_53 : decode cX7_valueOf 53 = .ok (.iload_n 0, 1) := by decide +kernel
theorem dX7_valueOf_54 : decode cX7_valueOf 54 = .ok (.tableswitch 56 0 2 #[26, 41, 46], 26) := by decide +kernel
theorem dX7_valueOf_80 : decode cX7_valueOf 80 = .ok (.iload_n 2, 1) := by decide +kernel
theorem dX7_valueOf_81 : decode cX7_valueOf 81 = .ok (.iconst 1, 1) := by decide +kernel
theorem dX7_valueOf_82 : decode cX7_valueOf 82 = .ok (.if_icmp .ne 7, 3) := by decide +kernel
theorem dX7_valueOf_85 : decode cX7_valueOf 85 = .ok (.iconst 1, 1) := by decide +kernel
theorem dX7_valueOf_86 : decode cX7_valueOf 86 = .ok (.goto 8, 3) := by decide +kernel
theorem dX7_valueOf_89 : decode cX7_valueOf 89 = .ok (.iload 5, 2) := by decide +kernel
theorem dX7_valueOf_91 : decode cX7_valueOf 91 = .ok (.iload 6, 2) := by decide +kernel
theorem dX7_valueOf_93 : decode cX7_valueOf 93 = .ok (.iadd, 1) := by decide +kernel
theorem dX7_valueOf_94 : decode cX7_valueOf 94 = .ok (.ireturn, 1) := by decide +kernel
theorem dX7_valueOf_95 : decode cX7_valueOf 95 = .ok (.iconst 1, 1) := by decide +kernel
theorem dX7_valueOf_96 : decode cX7_valueOf 96 = .ok (.iload 5, 2) := by decide +kernel
theorem dX7_valueOf_98 : decode cX7_valueOf 98 = .ok (.iadd, 1) := by decide +kernel
theorem dX7_valueOf_99 : decode cX7_valueOf 99 = .ok (.ireturn, 1) := by decide +kernel
theorem dX7_valueOf_100 : decode cX7_valueOf 100 = .ok (.iconst 1, 1) := by decide +kernel
theorem dX7_valueOf_101 : decode cX7_valueOf 101 = .ok (.iload 5, 2) := by decide +kernel
theorem dX7_valueOf_103 : decode cX7_valueOf 103 = .ok (.iload 6, 2) := by decide +kernel
theorem dX7_valueOf_105 : decode cX7_valueOf 105 = .ok (.invokestatic 50, 3) := by decide +kernel
theorem dX7_valueOf_108 : decode cX7_valueOf 108 = .ok (.iadd, 1) := by decide +kernel
theorem dX7_valueOf_109 : decode cX7_valueOf 109 = .ok (.ireturn, 1) := by decide +kernel
theorem dX7_valueOf_110 : decode cX7_valueOf 110 = .ok (.iload 5, 2) := by decide +kernel
theorem dX7_valueOf_112 : decode cX7_valueOf 112 = .ok (.iload 6, 2) := by decide +kernel
theorem dX7_valueOf_114 : decode cX7_valueOf 114 = .ok (.iadd, 1) := by decide +kernel
theorem dX7_valueOf_115 : decode cX7_valueOf 115 = .ok (.iload 4, 2) := by decide +kernel
theorem dX7_valueOf_117 : decode cX7_valueOf 117 = .ok (.ifCond .le 7, 3) := by decide +kernel
theorem dX7_valueOf_120 : decode cX7_valueOf 120 = .ok (.iconst 1, 1) := by decide +kernel
theorem dX7_valueOf_121 : decode cX7_valueOf 121 = .ok (.goto 4, 3) := by decide +kernel
theorem dX7_valueOf_124 : decode cX7_valueOf 124 = .ok (.iconst 0, 1) := by decide +kernel
theorem dX7_valueOf_125 : decode cX7_valueOf 125 = .ok (.iadd, 1) := by decide +kernel
theorem dX7_valueOf_126 : decode cX7_valueOf 126 = .ok (.ireturn, 1) := by decide +kernel
theorem dJ6_valueOf_2dffe_0 : decode cJ6_valueOf_2dffe 0 = .ok (.iload_n 0, 1) := by decide +kernel
theorem dJ6_valueOf_2dffe_1 : decode cJ6_valueOf_2dffe 1 = .ok (.bipush (-128), 2) := by decide +kernel
theorem dJ6_valueOf_2dffe_3 : decode cJ6_valueOf_2dffe 3 = .ok (.if_icmp .lt 20, 3) := by decide +kernel
theorem dJ6_valueOf_2dffe_6 : decode cJ6_valueOf_2dffe 6 = .ok (.iload_n 0, 1) := by decide +kernel
theorem dJ6_valueOf_2dffe_7 : decode cJ6_valueOf_2dffe 7 = .ok (.getstatic 191, 3) := by decide +kernel
theorem dJ6_valueOf_2dffe_10 : decode cJ6_valueOf_2dffe 10 = .ok (.if_icmp .gt 13, 3) := by decide +kernel
theorem dJ6_valueOf_2dffe_13 : decode cJ6_valueOf_2dffe 13 = .ok (.getstatic 195, 3) := by decide +kernel
theorem dJ6_valueOf_2dffe_16 : decode cJ6_valueOf_2dffe 16 = .ok (.iload_n 0, 1) := by decide +kernel
theorem dJ6_valueOf_2dffe_17 : decode cJ6_valueOf_2dffe 17 = .ok (.sipush 128, 3) := by decide +kernel
theorem dJ6_valueOf_2dffe_20 : decode cJ6_valueOf_2dffe 20 = .ok (.iadd, 1) := by decide +kernel
theorem dJ6_valueOf_2dffe_21 : decode cJ6_valueOf_2dffe 21 = .ok (.aaload, 1) := by decide +kernel
theorem dJ6_valueOf_2dffe_22 : decode cJ6_valueOf_2dffe 22 = .ok (.areturn, 1) := by decide +kernel
theorem dJ6_valueOf_2dffe_23 : decode cJ6_valueOf_2dffe 23 = .ok (.new 1, 3) := by decide +kernel
theorem dJ6_valueOf_2dffe_26 : decode cJ6_valueOf_2dffe 26 = .ok (.dup, 1) := by decide +kernel
theorem dJ6_valueOf_2dffe_27 : decode cJ6_valueOf_2dffe 27 = .ok (.iload_n 0, 1) := by decide +kernel
theorem dJ6_valueOf_2dffe_28 : decode cJ6_valueOf_2dffe 28 = .ok (.invokespecial 199, 3) := by decide +kernel
theorem dJ6_valueOf_2dffe_31 : decode cJ6_valueOf_2dffe 31 = .ok (.areturn, 1) := by decide +kernel
theorem dJ6_bitCount_0f7a4_0 : decode cJ6_bitCount_0f7a4 0 = .ok (.iload_n 0, 1) := by decide +kernel
theorem dJ6_bitCount_0f7a4_1 : decode cJ6_bitCount_0f7a4 1 = .ok (.iload_n 0, 1) := by decide +kernel
theorem dJ6_bitCount_0f7a4_2 : decode cJ6_bitCount_0f7a4 2 = .ok (.iconst 1, 1) := by decide +kernel
theorem dJ6_bitCount_0f7a4_3 : decode cJ6_bitCount_0f7a4 3 = .ok (.iushr, 1) := by decide +kernel
theorem dJ6_bitCount_0f7a4_4 : decode cJ6_bitCount_0f7a4 4 = .ok (.ldc_w 265, 3) := by decide +kernel
theorem dJ6_bitCount_0f7a4_7 : decode cJ6_bitCount_0f7a4 7 = .ok (.iand, 1) := by decide +kernel
theorem dJ6_bitCount_0f7a4_8 : decode cJ6_bitCount_0f7a4 8 = .ok (.isub, 1) := by decide +kernel
theorem dJ6_bitCount_0f7a4_9 : decode cJ6_bitCount_0f7a4 9 = .ok (.istore_n 0, 1) := by decide +kernel
theorem dJ6_bitCount_0f7a4_10 : decode cJ6_bitCount_0f7a4 10 = .ok (.iload_n 0, 1) := by decide +kernel
theorem dJ6_bitCount_0f7a4_11 : decode cJ6_bitCount_0f7a4 11 = .ok (.ldc_w 266, 3) := by decide +kernel
theorem dJ6_bitCount_0f7a4_14 : decode cJ6_bitCount_0f7a4 14 = .ok (.iand, 1) := by decide +kernel
theorem dJ6_bitCount_0f7a4_15 : decode cJ6_bitCount_0f7a4 15 = .ok (.iload_n 0, 1) := by decide +kernel
theorem dJ6_bitCount_0f7a4_16 : decode cJ6_bitCount_0f7a4 16 = .ok (.iconst 2, 1) := by decide +kernel
theorem dJ6_bitCount_0f7a4_17 : decode cJ6_bitCount_0f7a4 17 = .ok (.iushr, 1) := by decide +kernel
theorem dJ6_bitCount_0f7a4_18 : decode cJ6_bitCount_0f7a4 18 = .ok (.ldc_w 266, 3) := by decide +kernel
theorem dJ6_bitCount_0f7a4_21 : decode cJ6_bitCount_0f7a4 21 = .ok (.iand, 1) := by decide +kernel
theorem dJ6_bitCount_0f7a4_22 : decode cJ6_bitCount_0f7a4 22 = .ok (.iadd, 1) := by decide +kernel
theorem dJ6_bitCount_0f7a4_23 : decode cJ6_bitCount_0f7a4 23 = .ok (.istore_n 0, 1) := by decide +kernel
theorem dJ6_bitCount_0f7a4_24 : decode cJ6_bitCount_0f7a4 24 = .ok (.iload_n 0, 1) := by decide +kernel
theorem dJ6_bitCount_0f7a4_25 : decode cJ6_bitCount_0f7a4 25 = .ok (.iload_n 0, 1) := by decide +kernel
theorem dJ6_bitCount_0f7a4_26 : decode cJ6_bitCount_0f7a4 26 = .ok (.iconst 4, 1) := by decide +kernel
theorem dJ6_bitCount_0f7a4_27 : decode cJ6_bitCount_0f7a4 27 = .ok (.iushr, 1) := by decide +kernel
theorem dJ6_bitCount_0f7a4_28 : decode cJ6_bitCount_0f7a4 28 = .ok (.iadd, 1) := by decide +kernel
theorem dJ6_bitCount_0f7a4_29 : decode cJ6_bitCount_0f7a4 29 = .ok (.ldc_w 267, 3) := by decide +kernel
theorem dJ6_bitCount_0f7a4_32 : decode cJ6_bitCount_0f7a4 32 = .ok (.iand, 1) := by decide +kernel
theorem dJ6_bitCount_0f7a4_33 : decode cJ6_bitCount_0f7a4 33 = .ok (.istore_n 0, 1) := by decide +kernel
theorem dJ6_bitCount_0f7a4_34 : decode cJ6_bitCount_0f7a4 34 = .ok (.iload_n 0, 1) := by decide +kernel
theorem dJ6_bitCount_0f7a4_35 : decode cJ6_bitCount_0f7a4 35 = .ok (.iload_n 0, 1) := by decide +kernel
theorem dJ6_bitCount_0f7a4_36 : decode cJ6_bitCount_0f7a4 36 = .ok (.bipush 8, 2) := by decide +kernel
theorem dJ6_bitCount_0f7a4_38 : decode cJ6_bitCount_0f7a4 38 = .ok (.iushr, 1) := by decide +kernel
theorem dJ6_bitCount_0f7a4_39 : decode cJ6_bitCount_0f7a4 39 = .ok (.iadd, 1) := by decide +kernel
theorem dJ6_bitCount_0f7a4_40 : decode cJ6_bitCount_0f7a4 40 = .ok (.istore_n 0, 1) := by decide +kernel
theorem dJ6_bitCount_0f7a4_41 : decode cJ6_bitCount_0f7a4 41 = .ok (.iload_n 0, 1) := by decide +kernel
theorem dJ6_bitCount_0f7a4_42 : decode cJ6_bitCount_0f7a4 42 = .ok (.iload_n 0, 1) := by decide +kernel
theorem dJ6_bitCount_0f7a4_43 : decode cJ6_bitCount_0f7a4 43 = .ok (.bipush 16, 2) := by decide +kernel
theorem dJ6_bitCount_0f7a4_45 : decode cJ6_bitCount_0f7a4 45 = .ok (.iushr, 1) := by decide +kernel
theorem dJ6_bitCount_0f7a4_46 : decode cJ6_bitCount_0f7a4 46 = .ok (.iadd, 1) := by decide +kernel
theorem dJ6_bitCount_0f7a4_47 : decode cJ6_bitCount_0f7a4 47 = .ok (.istore_n 0, 1) := by decide +kernel
theorem dJ6_bitCount_0f7a4_48 : decode cJ6_bitCount_0f7a4 48 = .ok (.iload_n 0, 1) := by decide +kernel
theorem dJ6_bitCount_0f7a4_49 : decode cJ6_bitCount_0f7a4 49 = .ok (.bipush 63, 2) := by decide +kernel
theorem dJ6_bitCount_0f7a4_51 : decode cJ6_bitCount_0f7a4 51 = .ok (.iand, 1) := by decide +kernel
theorem dJ6_bitCount_0f7a4_52 : decode cJ6_bitCount_0f7a4 52 = .ok (.ireturn, 1) := by decide +kernel
theorem dX4_init_0 : decode cX4_init 0 = .ok (.aload_n 0, 1) := by decide +kernel
theorem dX4_init_1 : decode cX4_init 1 = .ok (.invokespecial 3, 3) := by decide +kernel
theorem dX4_init_4 : decode cX4_init 4 = .ok (.getstatic 9, 3) := by decide +kernel
theorem dX4_init_7 : decode cX4_init 7 = .ok (.iload_n 1, 1) := by decide +kernel
theorem dX4_init_8 : decode cX4_init 8 = .ok (.invokestatic 13, 3) := by decide +kernel
theorem dX4_init_11 : decode cX4_init 11 = .ok (.iconst 0, 1) := by decide +kernel
theorem dX4_init_12 : decode cX4_init 12 = .ok (.invokestatic 19, 3) := by decide +kernel
theorem dX4_init_15 : decode cX4_init 15 = .ok (.istore_n 2, 1) := by decide +kernel
theorem dX4_init_16 : decode cX4_init 16 = .ok (.getstatic 25, 3) := by decide +kernel
theorem dX4_init_19 : decode cX4_init 19 = .ok (.iload_n 1, 1) := by decide +kernel
theorem dX4_init_20 : decode cX4_init 20 = .ok (.invokestatic 13, 3) := by decide +kernel
theorem dX4_init_23 : decode cX4_init 23 = .ok (.iconst 0, 1) := by decide +kernel
theorem dX4_init_24 : decode cX4_init 24 = .ok (.invokestatic 19, 3) := by decide +kernel
theorem dX4_init_27 : decode cX4_init 27 = .ok (.istore_n 3, 1) := by decide +kernel
theorem dX4_init_28 : decode cX4_init 28 = .ok (.aload_n 0, 1) := by decide +kernel
theorem dX4_init_29 : decode cX4_init 29 = .ok (.iload_n 1, 1) := by decide +kernel
theorem dX4_init_30 : decode cX4_init 30 = .ok (.putfield 28, 3) := by decide +kernel
theorem dX4_init_33 : decode cX4_init 33 = .ok (.aload_n 0, 1) := by decide +kernel
theorem dX4_init_34 : decode cX4_init 34 = .ok (.iload_n 2, 1) := by decide +kernel
theorem dX4_init_35 : decode cX4_init 35 = .ok (.newarray .int, 2) := by decide +kernel
theorem dX4_init_37 : decode cX4_init 37 = .ok (.putfield 34, 3) := by decide +kernel
theorem dX4_init_40 : decode cX4_init 40 = .ok (.aload_n 0, 1) := by decide +kernel
theorem dX4_init_41 : decode cX4_init 41 = .ok (.iload_n 3, 1) := by decide +kernel
theorem dX4_init_42 : decode cX4_init 42 = .ok (.newarray .int, 2) := by decide +kernel
theorem dX4_init_44 : decode cX4_init 44 = .ok (.putfield 37, 3) := by decide +kernel
theorem dX4_init_47 : decode cX4_init 47 = .ok (.aload_n 0, 1) := by decide +kernel
theorem dX4_init_48 : decode cX4_init 48 = .ok (.bipush 11, 2) := by decide +kernel
theorem dX4_init_50 : decode cX4_init 50 = .ok (.iload_n 3, 1) := by decide +kernel
theorem dX4_init_51 : decode cX4_init 51 = .ok (.multianewarray 40 2, 4) := by decide +kernel
theorem dX4_init_55 : decode cX4_init 55 = .ok (.putfield 42, 3) := by decide +kernel
theorem dX4_init_58 : decode cX4_init 58 = .ok (.aload_n 0, 1) := by decide +kernel
theorem dX4_init_59 : decode cX4_init 59 = .ok (.bipush 12, 2) := by decide +kernel
theorem dX4_init_61 : decode cX4_init 61 = .ok (.iload_n 3, 1) := by decide +kernel
theorem dX4_init_62 : decode cX4_init 62 = .ok (.multianewarray 40 2, 4) := by decide +kernel
theorem dX4_init_66 : decode cX4_init 66 = .ok (.putfield 45, 3) := by decide +kernel
theorem dX4_init_69 : decode cX4_init 69 = .ok (.aload_n 0, 1) := by decide +kernel
theorem dX4_init_70 : decode cX4_init 70 = .ok (.bipush 12, 2) := by decide +kernel
theorem dX4_init_72 : decode cX4_init 72 = .ok (.bipush 37, 2) := by decide +kernel
theorem dX4_init_74 : decode cX4_init 74 = .ok (.multianewarray 40 2, 4) := by decide +kernel
theorem dX4_init_78 : decode cX4_init 78 = .ok (.putfield 48, 3) := by decide +kernel
theorem dX4_init_81 : decode cX4_init 81 = .ok (.return_, 1) := by decide +kernel
theorem dX4_of_0 : decode cX4_of 0 = .ok (.new 29, 3) := by decide +kernel
theorem dX4_of_3 : decode cX4_of 3 = .ok (.dup, 1) := by decide +kernel
theorem dX4_of_4 : decode cX4_of 4 = .ok (.iload_n 0, 1) := by decide +kernel
theorem dX4_of_5 : decode cX4_of 5 = .ok (.invokespecial 51, 3) := by decide +kernel
theorem dX4_of_8 : decode cX4_of 8 = .ok (.astore_n 1, 1) := by decide +kernel
theorem dX4_of_9 : decode cX4_of 9 = .ok (.aload_n 1, 1) := by decide +kernel
theorem dX4_of_10 : decode cX4_of 10 = .ok (.invokevirtual 54, 3) := by decide +kernel
theorem dX4_of_13 : decode cX4_of 13 = .ok (.aload_n 1, 1) := by decide +kernel
theorem dX4_of_14 : decode cX4_of 14 = .ok (.invokevirtual 57, 3) := by decide +kernel
theorem dX4_of_17 : decode cX4_of 17 = .ok (.iconst 0, 1) := by decide +kernel
theorem dX4_of_18 : decode cX4_of 18 = .ok (.istore_n 2, 1) := by decide +kernel
theorem dX4_of_19 : decode cX4_of 19 = .ok (.iload_n 2, 1) := by decide +kernel
theorem dX4_of_20 : decode cX4_of 20 = .ok (.bipush 11, 2) := by decide +kernel
theorem dX4_of_22 : decode cX4_of 22 = .ok (.if_icmp .ge 14, 3) := by decide +kernel
theorem dX4_of_25 : decode cX4_of 25 = .ok (.aload_n 1, 1) := by decide +kernel
theorem dX4_of_26 : decode cX4_of 26 = .ok (.iload_n 2, 1) := by decide +kernel
theorem dX4_of_27 : decode cX4_of 27 = .ok (.invokevirtual 60, 3) := by decide +kernel
theorem dX4_of_30 : decode cX4_of 30 = .ok (.iinc 2 1, 3) := by decide +kernel
theorem dX4_of_33 : decode cX4_of 33 = .ok (.goto (-14), 3) := by decide +kernel
theorem dX4_of_36 : decode cX4_of 36 = .ok (.iconst 0, 1) := by decide +kernel
theorem dX4_of_37 : decode cX4_of 37 = .ok (.istore_n 2, 1) := by decide +kernel
theorem dX4_of_38 : decode cX4_of 38 = .ok (.iload_n 2, 1) := by decide +kernel
theorem dX4_of_39 : decode cX4_of 39 = .ok (.iconst 3, 1) := by decide +kernel
theorem dX4_of_40 : decode cX4_of 40 = .ok (.if_icmp .ge 28, 3) := by decide +kernel
theorem dX4_of_43 : decode cX4_of 43 = .ok (.iconst 0, 1) := by decide +kernel
theorem dX4_of_44 : decode cX4_of 44 = .ok (.istore_n 3, 1) := by decide +kernel
theorem dX4_of_45 : decode cX4_of 45 = .ok (.iload_n 3, 1) := by decide +kernel
theorem dX4_of_46 : decode cX4_of 46 = .ok (.iconst 4, 1) := by decide +kernel
theorem dX4_of_47 : decode cX4_of 47 = .ok (.if_icmp .ge 15, 3) := by decide +kernel
theorem dX4_of_50 : decode cX4_of 50 = .ok (.aload_n 1, 1) := by decide +kernel
theorem dX4_of_51 : decode cX4_of 51 = .ok (.iload_n 2, 1) := by decide +kernel
theorem dX4_of_52 : decode cX4_of 52 = .ok (.iload_n 3, 1) := by decide +kernel
theorem dX4_of_53 : decode cX4_of 53 = .ok (.invokevirtual 63, 3) := by decide +kernel
theorem dX4_of_56 : decode cX4_of 56 = .ok (.iinc 3 1, 3) := by decide +kernel
theorem dX4_of_59 : decode cX4_of 59 = .ok (.goto (-14), 3) := by decide +kernel
theorem dX4_of_62 : decode cX4_of 62 = .ok (.iinc 2 1, 3) := by decide +kernel
theorem dX4_of_65 : decode cX4_of 65 = .ok (.goto (-27), 3) := by decide +kernel
theorem dX4_of_68 : decode cX4_of 68 = .ok (.aload_n 1, 1) := by decide +kernel
theorem dX4_of_69 : decode cX4_of 69 = .ok (.areturn, 1) := by decide +kernel
theorem dX4_listPaths_0 : decode cX4_listPaths 0 = .ok (.iconst 0, 1) := by decide +kernel
theorem dX4_listPaths_1 : decode cX4_listPaths 1 = .ok (.istore_n 1, 1) := by decide +kernel
theorem dX4_listPaths_2 : decode cX4_listPaths 2 = .ok (.iconst 0, 1) := by decide +kernel
theorem dX4_listPaths_3 : decode cX4_listPaths 3 = .ok (.istore_n 2, 1) := by decide +kernel
theorem dX4_listPaths_4 : decode cX4_listPaths 4 = .ok (.iload_n 2, 1) := by decide +kernel
theorem dX4_listPaths_5 : decode cX4_listPaths 5 = .ok (.iconst 1, 1) := by decide +kernel
theorem dX4_listPaths_6 : decode cX4_listPaths 6 = .ok (.iconst 2, 1) := by decide +kernel
theorem dX4_listPaths_7 : decode cX4_listPaths 7 = .ok (.aload_n 0, 1) := by decide +kernel
theorem dX4_listPaths_8 : decode cX4_listPaths 8 = .ok (.getfield 28, 3) := by decide +kernel
theorem dX4_listPaths_11 : decode cX4_listPaths 11 = .ok (.imul, 1) := by decide +kernel
theorem dX4_listPaths_12 : decode cX4_listPaths 12 = .ok (.ishl, 1) := by decide +kernel
theorem dX4_listPaths_13 : decode cX4_listPaths 13 = .ok (.if_icmp .ge 32, 3) := by decide +kernel
theorem dX4_listPaths_16 : decode cX4_listPaths 16 = .ok (.iload_n 2, 1) := by decide +kernel
theorem dX4_listPaths_17 : decode cX4_listPaths 17 = .ok (.aload_n 0, 1) := by decide +kernel
theorem dX4_listPaths_18 : decode cX4_listPaths 18 = .ok (.getfield 28, 3) := by decide +kernel
theorem dX4_listPaths_21 : decode cX4_listPaths 21 = .ok (.invokestatic 67, 3) := by decide +kernel
theorem dX4_listPaths_24 : decode cX4_listPaths 24 = .ok (.ifCond .eq 15, 3) := by decide +kernel
theorem dX4_listPaths_27 : decode cX4_listPaths 27 = .ok (.aload_n 0, 1) := by decide +kernel
theorem dX4_listPaths_28 : decode cX4_listPaths 28 = .ok (.getfield 34, 3) := by decide +kernel
theorem dX4_listPaths_31 : decode cX4_listPaths 31 = .ok (.iload_n 1, 1) := by decide +kernel
theorem dX4_listPaths_32 : decode cX4_listPaths 32 = .ok (.iload_n 2, 1) := by decide +kernel
theorem dX4_listPaths_33 : decode cX4_listPaths 33 = .ok (.invokestatic 73, 3) := by decide +kernel
theorem dX4_listPaths_36 : decode cX4_listPaths 36 = .ok (.iinc 1 1, 3) := by decide +kernel
theorem dX4_listPaths_39 : decode cX4_listPaths 39 = .ok (.iinc 2 1, 3) := by decide +kernel
theorem dX4_listPaths_42 : decode cX4_listPaths 42 = .ok (.goto (-38), 3) := by decide +kernel
theorem dX4_listPaths_45 : decode cX4_listPaths 45 = .ok (.return_, 1) := by decide +kernel
theorem dX4_listOrders_0 : decode cX4_listOrders 0 = .ok (.iconst 0, 1) := by decide +kernel
theorem dX4_listOrders_1 : decode cX4_listOrders 1 = .ok (.istore_n 1, 1) := by decide +kernel
theorem dX4_listOrders_2 : decode cX4_listOrders 2 = .ok (.iload_n 1, 1) := by decide +kernel
theorem dX4_listOrders_3 : decode cX4_listOrders 3 = .ok (.aload_n 0, 1) := by decide +kernel
theorem dX4_listOrders_4 : decode cX4_listOrders 4 = .ok (.getfield 37, 3) := by decide +kernel
theorem dX4_listOrders_7 : decode cX4_listOrders 7 = .ok (.arraylength, 1) := by decide +kernel
theorem dX4_listOrders_8 : decode cX4_listOrders 8 = .ok (.if_icmp .ge 25, 3) := by decide +kernel
theorem dX4_listOrders_11 : decode cX4_listOrders 11 = .ok (.aload_n 0, 1) := by decide +kernel
theorem dX4_listOrders_12 : decode cX4_listOrders 12 = .ok (.getfield 37, 3) := by decide +kernel
theorem dX4_listOrders_15 : decode cX4_listOrders 15 = .ok (.iload_n 1, 1) := by decide +kernel
theorem dX4_listOrders_16 : decode cX4_listOrders 16 = .ok (.iload_n 1, 1) := by decide +kernel
theorem dX4_listOrders_17 : decode cX4_listOrders 17 = .ok (.aload_n 0, 1) := by decide +kernel
theorem dX4_listOrders_18 : decode cX4_listOrders 18 = .ok (.getfield 28, 3) := by decide +kernel
theorem dX4_listOrders_21 : decode cX4_listOrders 21 = .ok (.invokestatic 77, 3) := by decide +kernel
theorem dX4_listOrders_24 : decode cX4_listOrders 24 = .ok (.invokestatic 73, 3) := by decide +kernel
theorem dX4_listOrders_27 : decode cX4_listOrders 27 = .ok (.iinc 1 1, 3) := by decide +kernel
theorem dX4_listOrders_30 : decode cX4_listOrders 30 = .ok (.goto (-28), 3) := by decide +kernel
theorem dX4_listOrders_33 : decode cX4_listOrders 33 = .ok (.return_, 1) := by decide +kernel
theorem dX4_listImages_0 : decode cX4_listImages 0 = .ok (.getstatic 82, 3) := by decide +kernel
theorem dX4_listImages_3 : decode cX4_listImages 3 = .ok (.iload_n 1, 1) := by decide +kernel
theorem dX4_listImages_4 : decode cX4_listImages 4 = .ok (.invokestatic 13, 3) := by decide +kernel
theorem dX4_listImages_7 : decode cX4_listImages 7 = .ok (.istore_n 2, 1) := by decide +kernel
theorem dX4_listImages_8 : decode cX4_listImages 8 = .ok (.getstatic 85, 3) := by decide +kernel
theorem dX4_listImages_11 : decode cX4_listImages 11 = .ok (.iload_n 1, 1) := by decide +kernel
theorem dX4_listImages_12 : decode cX4_listImages 12 = .ok (.invokestatic 13, 3) := by decide +kernel
theorem dX4_listImages_15 : decode cX4_listImages 15 = .ok (.istore_n 3, 1) := by decide +kernel
theorem dX4_listImages_16 : decode cX4_listImages 16 = .ok (.iconst 0, 1) := by decide +kernel
theorem dX4_listImages_17 : decode cX4_listImages 17 = .ok (.istore 4, 2) := by decide +kernel
theorem dX4_listImages_19 : decode cX4_listImages 19 = .ok (.iload 4, 2) := by decide +kernel
theorem dX4_listImages_21 : decode cX4_listImages 21 = .ok (.aload_n 0, 1) := by decide +kernel
theorem dX4_listImages_22 : decode cX4_listImages 22 = .ok (.iload_n 2, 1) := by decide +kernel
theorem dX4_listImages_23 : decode cX4_listImages 23 = .ok (.invokevirtual 88, 3) := by decide +kernel
theorem dX4_listImages_26 : decode cX4_listImages 26 = .ok (.if_icmp .ge 39, 3) := by decide +kernel
theorem dX4_listImages_29 : decode cX4_listImages 29 = .ok (.aload_n 0, 1) := by decide +kernel
theorem dX4_listImages_30 : decode cX4_listImages 30 = .ok (.getfield 42, 3) := by decide +kernel
theorem dX4_listImages_33 : decode cX4_listImages 33 = .ok (.iload_n 1, 1) := by decide +kernel
theorem dX4_listImages_34 : decode cX4_listImages 34 = .ok (.iload 4, 2) := by decide +kernel
theorem dX4_listImages_36 : decode cX4_listImages 36 = .ok (.aload_n 0, 1) := by decide +kernel
theorem dX4_listImages_37 : decode cX4_listImages 37 = .ok (.iload_n 3, 1) := by decide +kernel
theorem dX4_listImages_38 : decode cX4_listImages 38 = .ok (.iload_n 1, 1) := by decide +kernel
theorem dX4_listImages_39 : decode cX4_listImages 39 = .ok (.aload_n 0, 1) := by decide +kernel
theorem dX4_listImages_40 : decode cX4_listImages 40 = .ok (.iload_n 2, 1) := by decide +kernel
theorem dX4_listImages_41 : decode cX4_listImages 41 = .ok (.iload 4, 2) := by decide +kernel
theorem dX4_listImages_43 : decode cX4_listImages 43 = .ok (.invokevirtual 92, 3) := by decide +kernel
theorem dX4_listImages_46 : decode cX4_listImages 46 = .ok (.aload_n 0, 1) := by decide +kernel
theorem dX4_listImages_47 : decode cX4_listImages 47 = .ok (.getfield 28, 3) := by decide +kernel
theorem dX4_listImages_50 : decode cX4_listImages 50 = .ok (.invokestatic 95, 3) := by decide +kernel
theorem dX4_listImages_53 : decode cX4_listImages 53 = .ok (.invokevirtual 99, 3) := by decide +kernel
theorem dX4_listImages_56 : decode cX4_listImages 56 = .ok (.invokestatic 102, 3) := by decide +kernel
theorem dX4_listImages_59 : decode cX4_listImages 59 = .ok (.iinc 4 1, 3) := by decide +kernel
theorem dX4_listImages_62 : decode cX4_listImages 62 = .ok (.goto (-43), 3) := by decide +kernel
theorem dX4_listImages_65 : decode cX4_listImages 65 = .ok (.return_, 1) := by decide +kernel
theorem dX4_listValues_0 : decode cX4_listValues 0 = .ok (.iload_n 1, 1) := by decide +kernel
theorem dX4_listValues_1 : decode cX4_listValues 1 = .ok (.iconst 4, 1) := by decide +kernel
theorem dX4_listValues_2 : decode cX4_listValues 2 = .ok (.imul, 1) := by decide +kernel
theorem dX4_listValues_3 : decode cX4_listValues 3 = .ok (.iload_n 2, 1) := by decide +kernel
theorem dX4_listValues_4 : decode cX4_listValues 4 = .ok (.iadd, 1) := by decide +kernel
theorem dX4_listValues_5 : decode cX4_listValues 5 = .ok (.istore_n 3, 1) := by decide +kernel
theorem dX4_listValues_6 : decode cX4_listValues 6 = .ok (.iconst 0, 1) := by decide +kernel
theorem dX4_listValues_7 : decode cX4_listValues 7 = .ok (.istore 4, 2) := by decide +kernel
theorem dX4_listValues_9 : decode cX4_listValues 9 = .ok (.iload 4, 2) := by decide +kernel
theorem dX4_listValues_11 : decode cX4_listValues 11 = .ok (.aload_n 0, 1) := by decide +kernel
theorem dX4_listValues_12 : decode cX4_listValues 12 = .ok (.iload_n 1, 1) := by decide +kernel
theorem dX4_listValues_13 : decode cX4_listValues 13 = .ok (.invokevirtual 88, 3) := by decide +kernel
theorem dX4_listValues_16 : decode cX4_listValues 16 = .ok (.if_icmp .ge 61, 3) := by decide +kernel
theorem dX4_listValues_19 : decode cX4_listValues 19 = .ok (.iload_n 1, 1) := by decide +kernel
theorem dX4_listValues_20 : decode cX4_listValues 20 = .ok (.iload_n 2, 1) := by decide +kernel
theorem dX4_listValues_21 : decode cX4_listValues 21 = .ok (.aload_n 0, 1) := by decide +kernel
theorem dX4_listValues_22 : decode cX4_listValues 22 = .ok (.iload_n 1, 1) := by decide +kernel
theorem dX4_listValues_23 : decode cX4_listValues 23 = .ok (.iload 4, 2) := by decide +kernel
theorem dX4_listValues_25 : decode cX4_listValues 25 = .ok (.invokevirtual 92, 3) := by decide +kernel
theorem dX4_listValues_28 : decode cX4_listValues 28 = .ok (.aload_n 0, 1) := by decide +kernel
theorem dX4_listValues_29 : decode cX4_listValues 29 = .ok (.getfield 28, 3) := by decide +kernel
theorem dX4_listValues_32 : decode cX4_listValues 32 = .ok (.invokestatic 105, 3) := by decide +kernel
theorem dX4_listValues_35 : decode cX4_listValues 35 = .ok (.istore 5, 2) := by decide +kernel
theorem dX4_listValues_37 : decode cX4_listValues 37 = .ok (.aload_n 0, 1) := by decide +kernel
theorem dX4_listValues_38 : decode cX4_listValues 38 = .ok (.getfield 45, 3) := by decide +kernel
theorem dX4_listValues_41 : decode cX4_listValues 41 = .ok (.iload_n 3, 1) := by decide +kernel
theorem dX4_listValues_42 : decode cX4_listValues 42 = .ok (.iload 4, 2) := by decide +kernel
theorem dX4_listValues_44 : decode cX4_listValues 44 = .ok (.iload 5, 2) := by decide +kernel
theorem dX4_listValues_46 : decode cX4_listValues 46 = .ok (.invokestatic 102, 3) := by decide +kernel
theorem dX4_listValues_49 : decode cX4_listValues 49 = .ok (.aload_n 0, 1) := by decide +kernel
theorem dX4_listValues_50 : decode cX4_listValues 50 = .ok (.getfield 48, 3) := by decide +kernel
theorem dX4_listValues_53 : decode cX4_listValues 53 = .ok (.iload_n 3, 1) := by decide +kernel
theorem dX4_listValues_54 : decode cX4_listValues 54 = .ok (.iload 5, 2) := by decide +kernel
theorem dX4_listValues_56 : decode cX4_listValues 56 = .ok (.aload_n 0, 1) := by decide +kernel
theorem dX4_listValues_57 : decode cX4_listValues 57 = .ok (.getfield 48, 3) := by decide +kernel
theorem dX4_listValues_60 : decode cX4_listValues 60 = .ok (.iload_n 3, 1) := by decide +kernel
theorem dX4_listValues_61 : decode cX4_listValues 61 = .ok (.iload 5, 2) := by decide +kernel
theorem dX4_listValues_63 : decode cX4_listValues 63 = .ok (.invokestatic 109, 3) := by decide +kernel
theorem dX4_listValues_66 : decode cX4_listValues 66 = .ok (.iconst 1, 1) := by decide +kernel
theorem dX4_listValues_67 : decode cX4_listValues 67 = .ok (.iadd, 1) := by decide +kernel
theorem dX4_listValues_68 : decode cX4_listValues 68 = .ok (.invokestatic 102, 3) := by decide +kernel
theorem dX4_listValues_71 : decode cX4_listValues 71 = .ok (.iinc 4 1, 3) := by decide +kernel
theorem dX4_listValues_74 : decode cX4_listValues 74 = .ok (.goto (-65), 3) := by decide +kernel
theorem dX4_listValues_77 : decode cX4_listValues 77 = .ok (.return_, 1) := by decide +kernel
theorem dX4_imageCode_0 : decode cX4_imageCode 0 = .ok (.iload_n 0, 1) := by decide +kernel
theorem dX4_imageCode_1 : decode cX4_imageCode 1 = .ok (.tableswitch 116 0 10 #[116, 59, 116, 65, 71, 77, 83, 90, 98, 104, 110], 59) := by decide +kernel
theorem dX4_imageCode_60 : decode cX4_imageCode 60 = .ok (.iload_n 1, 1) := by decide +kernel
theorem dX4_imageCode_61 : decode cX4_imageCode 61 = .ok (.iload_n 2, 1) := by decide +kernel
theorem dX4_imageCode_62 : decode cX4_imageCode 62 = .ok (.invokestatic 112, 3) := by decide +kernel
theorem dX4_imageCode_65 : decode cX4_imageCode 65 = .ok (.ireturn, 1) := by decide +kernel
theorem dX4_imageCode_66 : decode cX4_imageCode 66 = .ok (.iload_n 1, 1) := by decide +kernel
theorem dX4_imageCode_67 : decode cX4_imageCode 67 = .ok (.iload_n 2, 1) := by decide +kernel
theorem dX4_imageCode_68 : decode cX4_imageCode 68 = .ok (.invokestatic 115, 3) := by decide +kernel
theorem dX4_imageCode_71 : decode cX4_imageCode 71 = .ok (.ireturn, 1) := by decide +kernel
theorem dX4_imageCode_72 : decode cX4_imageCode 72 = .ok (.iload_n 1, 1) := by decide +kernel
theorem dX4_imageCode_73 : decode cX4_imageCode 73 = .ok (.iload_n 2, 1) := by decide +kernel
theorem dX4_imageCode_74 : decode cX4_imageCode 74 = .ok (.invokestatic 120, 3) := by decide +kernel
theorem dX4_imageCode_77 : decode cX4_imageCode 77 = .ok (.ireturn, 1) := by decide +kernel
theorem dX4_imageCode_78 : decode cX4_imageCode 78 = .ok (.iload_n 1, 1) := by decide +kernel
theorem dX4_imageCode_79 : decode cX4_imageCode 79 = .ok (.iload_n 2, 1) := by decide +kernel
theorem dX4_imageCode_80 : decode cX4_imageCode 80 = .ok (.invokestatic 123, 3) := by decide +kernel
theorem dX4_imageCode_83 : decode cX4_imageCode 83 = .ok (.ireturn, 1) := by decide +kernel
theorem dX4_imageCode_84 : decode cX4_imageCode 84 = .ok (.iload_n 1, 1) := by decide +kernel
theorem dX4_imageCode_85 : decode cX4_imageCode 85 = .ok (.iload_n 2, 1) := by decide +kernel
theorem dX4_imageCode_86 : decode cX4_imageCode 86 = .ok (.iconst 0, 1) := by decide +kernel
theorem dX4_imageCode_87 : decode cX4_imageCode 87 = .ok (.invokestatic 126, 3) := by decide +kernel
theorem dX4_imageCode_90 : decode cX4_imageCode 90 = .ok (.ireturn, 1) := by decide +kernel
theorem dX4_imageCode_91 : decode cX4_imageCode 91 = .ok (.iload_n 1, 1) := by decide +kernel
theorem dX4_imageCode_92 : decode cX4_imageCode 92 = .ok (.iload_n 2, 1) := by decide +kernel
theorem dX4_imageCode_93 : decode cX4_imageCode 93 = .ok (.iconst 1, 1) := by decide +kernel
theorem dX4_imageCode_94 : decode cX4_imageCode 94 = .ok (.iload_n 2, 1) := by decide +kernel
theorem dX4_imageCode_95 : decode cX4_imageCode 95 = .ok (.invokestatic 129, 3) := by decide +kernel
theorem dX4_imageCode_98 : decode cX4_imageCode 98 = .ok (.ireturn, 1) := by decide +kernel
theorem dX4_imageCode_99 : decode cX4_imageCode 99 = .ok (.iload_n 1, 1) := by decide +kernel
theorem dX4_imageCode_100 : decode cX4_imageCode 100 = .ok (.iload_n 2, 1) := by decide +kernel
theorem dX4_imageCode_101 : decode cX4_imageCode 101 = .ok (.invokestatic 132, 3) := by decide +kernel
theorem dX4_imageCode_104 : decode cX4_imageCode 104 = .ok (.ireturn, 1) := by decide +kernel
theorem dX4_imageCode_105 : decode cX4_imageCode 105 = .ok (.iload_n 1, 1) := by decide +kernel
theorem dX4_imageCode_106 : decode cX4_imageCode 106 = .ok (.iload_n 2, 1) := by decide +kernel
theorem dX4_imageCode_107 : decode cX4_imageCode 107 = .ok (.invokestatic 135, 3) := by decide +kernel
theorem dX4_imageCode_110 : decode cX4_imageCode 110 = .ok (.ireturn, 1) := by decide +kernel
theorem dX4_imageCode_111 : decode cX4_imageCode 111 = .ok (.iload_n 1, 1) := by decide +kernel
theorem dX4_imageCode_112 : decode cX4_imageCode 112 = .ok (.iload_n 2, 1) := by decide +kernel
theorem dX4_imageCode_113 : decode cX4_imageCode 113 = .ok (.invokestatic 138, 3) := by decide +kernel
theorem dX4_imageCode_116 : decode cX4_imageCode 116 = .ok (.ireturn, 1) := by decide +kernel
theorem dX4_imageCode_117 : decode cX4_imageCode 117 = .ok (.iload_n 1, 1) := by decide +kernel
theorem dX4_imageCode_118 : decode cX4_imageCode 118 = .ok (.ireturn, 1) := by decide +kernel
theorem dX4_valueByCode_0 : decode cX4_valueByCode 0 = .ok (.iload_n 0, 1) := by decide +kernel
theorem dX4_valueByCode_1 : decode cX4_valueByCode 1 = .ok (.lookupswitch 41 #[(0, 27), (1, 34)], 27) := by decide +kernel
theorem dX4_valueByCode_28 : decode cX4_valueByCode 28 = .ok (.iload_n 1, 1) := by decide +kernel
theorem dX4_valueByCode_29 : decode cX4_valueByCode 29 = .ok (.iload_n 2, 1) := by decide +kernel
theorem dX4_valueByCode_30 : decode cX4_valueByCode 30 = .ok (.iload_n 3, 1) := by decide +kernel
theorem dX4_valueByCode_31 : decode cX4_valueByCode 31 = .ok (.invokestatic 141, 3) := by decide +kernel
theorem dX4_valueByCode_34 : decode cX4_valueByCode 34 = .ok (.ireturn, 1) := by decide +kernel
theorem dX4_valueByCode_35 : decode cX4_valueByCode 35 = .ok (.iload_n 1, 1) := by decide +kernel
theorem dX4_valueByCode_36 : decode cX4_valueByCode 36 = .ok (.iload_n 2, 1) := by decide +kernel
theorem dX4_valueByCode_37 : decode cX4_valueByCode 37 = .ok (.iload_n 3, 1) := by decide +kernel
theorem dX4_valueByCode_38 : decode cX4_valueByCode 38 = .ok (.invokestatic 144, 3) := by decide +kernel
theorem dX4_valueByCode_41 : decode cX4_valueByCode 41 = .ok (.ireturn, 1) := by decide +kernel
theorem dX4_valueByCode_42 : decode cX4_valueByCode 42 = .ok (.iload_n 1, 1) := by decide +kernel
theorem dX4_valueByCode_43 : decode cX4_valueByCode 43 = .ok (.iload_n 2, 1) := by decide +kernel
theorem dX4_valueByCode_44 : decode cX4_valueByCode 44 = .ok (.iload_n 3, 1) := by decide +kernel
theorem dX4_valueByCode_45 : decode cX4_valueByCode 45 = .ok (.invokestatic 145, 3) := by decide +kernel
theorem dX4_valueByCode_48 : decode cX4_valueByCode 48 = .ok (.ireturn, 1) := by decide +kernel
theorem dX4_codes_0 : decode cX4_codes 0 = .ok (.iload_n 1, 1) := by decide +kernel
theorem dX4_codes_1 : decode cX4_codes 1 = .ok (.iconst 2, 1) := by decide +kernel
theorem dX4_codes_2 : decode cX4_codes 2 = .ok (.if_icmp .ne 10, 3) := by decide +kernel
theorem dX4_codes_5 : decode cX4_codes 5 = .ok (.aload_n 0, 1) := by decide +kernel
theorem dX4_codes_6 : decode cX4_codes 6 = .ok (.getfield 37, 3) := by decide +kernel
theorem dX4_codes_9 : decode cX4_codes 9 = .ok (.goto 7, 3) := by decide +kernel
theorem dX4_codes_12 : decode cX4_codes 12 = .ok (.aload_n 0, 1) := by decide +kernel
theorem dX4_codes_13 : decode cX4_codes 13 = .ok (.getfield 34, 3) := by decide +kernel
theorem dX4_codes_16 : decode cX4_codes 16 = .ok (.areturn, 1) := by decide +kernel
theorem dX4_count_0 : decode cX4_count 0 = .ok (.aload_n 0, 1) := by decide +kernel
theorem dX4_count_1 : decode cX4_count 1 = .ok (.iload_n 1, 1) := by decide +kernel
theorem dX4_count_2 : decode cX4_count 2 = .ok (.invokevirtual 146, 3) := by decide +kernel
theorem dX4_count_5 : decode cX4_count 5 = .ok (.arraylength, 1) := by decide +kernel
theorem dX4_count_6 : decode cX4_count 6 = .ok (.ireturn, 1) := by decide +kernel
theorem dX4_codeOf_0 : decode cX4_codeOf 0 = .ok (.aload_n 0, 1) := by decide +kernel
theorem dX4_codeOf_1 : decode cX4_codeOf 1 = .ok (.iload_n 1, 1) := by decide +kernel
theorem dX4_codeOf_2 : decode cX4_codeOf 2 = .ok (.invokevirtual 146, 3) := by decide +kernel
theorem dX4_codeOf_5 : decode cX4_codeOf 5 = .ok (.iload_n 2, 1) := by decide +kernel
theorem dX4_codeOf_6 : decode cX4_codeOf 6 = .ok (.invokestatic 13, 3) := by decide +kernel
theorem dX4_codeOf_9 : decode cX4_codeOf 9 = .ok (.ireturn, 1) := by decide +kernel
theorem dX4_rankOf_0 : decode cX4_rankOf 0 = .ok (.aload_n 0, 1) := by decide +kernel
theorem dX4_rankOf_1 : decode cX4_rankOf 1 = .ok (.iload_n 1, 1) := by decide +kernel
theorem dX4_rankOf_2 : decode cX4_rankOf 2 = .ok (.invokevirtual 146, 3) := by decide +kernel
theorem dX4_rankOf_5 : decode cX4_rankOf 5 = .ok (.astore_n 3, 1) := by decide +kernel
theorem dX4_rankOf_6 : decode cX4_rankOf 6 = .ok (.iconst (-1), 1) := by decide +kernel
theorem dX4_rankOf_7 : decode cX4_rankOf 7 = .ok (.istore 4, 2) := by decide +kernel
theorem dX4_rankOf_9 : decode cX4_rankOf 9 = .ok (.sipush 512, 3) := by decide +kernel
theorem dX4_rankOf_12 : decode cX4_rankOf 12 = .ok (.istore 5, 2) := by decide +kernel
theorem dX4_rankOf_14 : decode cX4_rankOf 14 = .ok (.iload 5, 2) := by decide +kernel
theorem dX4_rankOf_16 : decode cX4_rankOf 16 = .ok (.ifCond .le 42, 3) := by decide +kernel
theorem dX4_rankOf_19 : decode cX4_rankOf 19 = .ok (.iload 4, 2) := by decide +kernel
theorem dX4_rankOf_21 : decode cX4_rankOf 21 = .ok (.iload 5, 2) := by decide +kernel
theorem dX4_rankOf_23 : decode cX4_rankOf 23 = .ok (.iadd, 1) := by decide +kernel
theorem dX4_rankOf_24 : decode cX4_rankOf 24 = .ok (.aload_n 3, 1) := by decide +kernel
theorem dX4_rankOf_25 : decode cX4_rankOf 25 = .ok (.arraylength, 1) := by decide +kernel
theorem dX4_rankOf_26 : decode cX4_rankOf 26 = .ok (.if_icmp .ge 23, 3) := by decide +kernel
theorem dX4_rankOf_29 : decode cX4_rankOf 29 = .ok (.aload_n 3, 1) := by decide +kernel
