theorem dX4_rankOf_63 : decode cX4_rankOf 63 = .ok (.aload_n 3, 1) := by decide +kernel
theorem dX4_rankOf_64 : decode cX4_rankOf 64 = .ok (.iload 4, 2) := by decide +kernel
theorem dX4_rankOf_66 : decode cX4_rankOf 66 = .ok (.invokestatic 13, 3) := by decide +kernel
theorem dX4_rankOf_69 : decode cX4_rankOf 69 = .ok (.iload_n 2, 1) := by decide +kernel
theorem dX4_rankOf_70 : decode cX4_rankOf 70 = .ok (.if_icmp .ne 8, 3) := by decide +kernel
theorem dX4_rankOf_73 : decode cX4_rankOf 73 = .ok (.iload 4, 2) := by decide +kernel
theorem dX4_rankOf_75 : decode cX4_rankOf 75 = .ok (.goto 4, 3) := by decide +kernel
theorem dX4_rankOf_78 : decode cX4_rankOf 78 = .ok (.iconst (-1), 1) := by decide +kernel
theorem dX4_rankOf_79 : decode cX4_rankOf 79 = .ok (.ireturn, 1) := by decide +kernel
theorem dX4_through_0 : decode cX4_through 0 = .ok (.iload_n 2, 1) := by decide +kernel
theorem dX4_through_1 : decode cX4_through 1 = .ok (.istore_n 3, 1) := by decide +kernel
theorem dX4_through_2 : decode cX4_through 2 = .ok (.iconst 0, 1) := by decide +kernel
theorem dX4_through_3 : decode cX4_through 3 = .ok (.istore 4, 2) := by decide +kernel
theorem dX4_through_5 : decode cX4_through 5 = .ok (.iload 4, 2) := by decide +kernel
theorem dX4_through_7 : decode cX4_through 7 = .ok (.aload_n 1, 1) := by decide +kernel
theorem dX4_through_8 : decode cX4_through 8 = .ok (.getfield 150, 3) := by decide +kernel
theorem dX4_through_11 : decode cX4_through 11 = .ok (.if_icmp .ge 24, 3) := by decide +kernel
theorem dX4_through_14 : decode cX4_through 14 = .ok (.aload_n 0, 1) := by decide +kernel
theorem dX4_through_15 : decode cX4_through 15 = .ok (.getfield 42, 3) := by decide +kernel
theorem dX4_through_18 : decode cX4_through 18 = .ok (.aload_n 1, 1) := by decide +kernel
theorem dX4_through_19 : decode cX4_through 19 = .ok (.iload 4, 2) := by decide +kernel
theorem dX4_through_21 : decode cX4_through 21 = .ok (.invokevirtual 155, 3) := by decide +kernel
theorem dX4_through_24 : decode cX4_through 24 = .ok (.iload_n 3, 1) := by decide +kernel
theorem dX4_through_25 : decode cX4_through 25 = .ok (.invokestatic 109, 3) := by decide +kernel
theorem dX4_through_28 : decode cX4_through 28 = .ok (.istore_n 3, 1) := by decide +kernel
theorem dX4_through_29 : decode cX4_through 29 = .ok (.iinc 4 1, 3) := by decide +kernel
theorem dX4_through_32 : decode cX4_through 32 = .ok (.goto (-27), 3) := by decide +kernel
theorem dX4_through_35 : decode cX4_through 35 = .ok (.iload_n 3, 1) := by decide +kernel
theorem dX4_through_36 : decode cX4_through 36 = .ok (.ireturn, 1) := by decide +kernel
theorem dX4_valueOf_0 : decode cX4_valueOf 0 = .ok (.aload_n 0, 1) := by decide +kernel
theorem dX4_valueOf_1 : decode cX4_valueOf 1 = .ok (.getfield 45, 3) := by decide +kernel
theorem dX4_valueOf_4 : decode cX4_valueOf 4 = .ok (.iload_n 1, 1) := by decide +kernel
theorem dX4_valueOf_5 : decode cX4_valueOf 5 = .ok (.iconst 4, 1) := by decide +kernel
theorem dX4_valueOf_6 : decode cX4_valueOf 6 = .ok (.imul, 1) := by decide +kernel
theorem dX4_valueOf_7 : decode cX4_valueOf 7 = .ok (.iload_n 2, 1) := by decide +kernel
theorem dX4_valueOf_8 : decode cX4_valueOf 8 = .ok (.iadd, 1) := by decide +kernel
theorem dX4_valueOf_9 : decode cX4_valueOf 9 = .ok (.iload_n 3, 1) := by decide +kernel
theorem dX4_valueOf_10 : decode cX4_valueOf 10 = .ok (.invokestatic 109, 3) := by decide +kernel
theorem dX4_valueOf_13 : decode cX4_valueOf 13 = .ok (.ireturn, 1) := by decide +kernel
theorem dX4_countOf_0 : decode cX4_countOf 0 = .ok (.aload_n 0, 1) := by decide +kernel
theorem dX4_countOf_1 : decode cX4_countOf 1 = .ok (.getfield 48, 3) := by decide +kernel
theorem dX4_countOf_4 : decode cX4_countOf 4 = .ok (.iload_n 1, 1) := by decide +kernel
theorem dX4_countOf_5 : decode cX4_countOf 5 = .ok (.iconst 4, 1) := by decide +kernel
theorem dX4_countOf_6 : decode cX4_countOf 6 = .ok (.imul, 1) := by decide +kernel
theorem dX4_countOf_7 : decode cX4_countOf 7 = .ok (.iload_n 2, 1) := by decide +kernel
theorem dX4_countOf_8 : decode cX4_countOf 8 = .ok (.iadd, 1) := by decide +kernel
theorem dX4_countOf_9 : decode cX4_countOf 9 = .ok (.iload_n 3, 1) := by decide +kernel
theorem dX4_countOf_10 : decode cX4_countOf 10 = .ok (.invokestatic 109, 3) := by decide +kernel
theorem dX4_countOf_13 : decode cX4_countOf 13 = .ok (.ireturn, 1) := by decide +kernel
theorem dX4_isInOrderBehind_0 : decode cX4_isInOrderBehind 0 = .ok (.iload_n 1, 1) := by decide +kernel
theorem dX4_isInOrderBehind_1 : decode cX4_isInOrderBehind 1 = .ok (.istore_n 3, 1) := by decide +kernel
theorem dX4_isInOrderBehind_2 : decode cX4_isInOrderBehind 2 = .ok (.iconst 0, 1) := by decide +kernel
theorem dX4_isInOrderBehind_3 : decode cX4_isInOrderBehind 3 = .ok (.istore 4, 2) := by decide +kernel
theorem dX4_isInOrderBehind_5 : decode cX4_isInOrderBehind 5 = .ok (.iload 4, 2) := by decide +kernel
theorem dX4_isInOrderBehind_7 : decode cX4_isInOrderBehind 7 = .ok (.iload_n 2, 1) := by decide +kernel
theorem dX4_isInOrderBehind_8 : decode cX4_isInOrderBehind 8 = .ok (.if_icmp .ge 24, 3) := by decide +kernel
theorem dX4_isInOrderBehind_11 : decode cX4_isInOrderBehind 11 = .ok (.iload_n 3, 1) := by decide +kernel
theorem dX4_isInOrderBehind_12 : decode cX4_isInOrderBehind 12 = .ok (.ifCond .eq 20, 3) := by decide +kernel
theorem dX4_isInOrderBehind_15 : decode cX4_isInOrderBehind 15 = .ok (.aload_n 0, 1) := by decide +kernel
theorem dX4_isInOrderBehind_16 : decode cX4_isInOrderBehind 16 = .ok (.getfield 42, 3) := by decide +kernel
theorem dX4_isInOrderBehind_19 : decode cX4_isInOrderBehind 19 = .ok (.bipush 10, 2) := by decide +kernel
theorem dX4_isInOrderBehind_21 : decode cX4_isInOrderBehind 21 = .ok (.iload_n 3, 1) := by decide +kernel
theorem dX4_isInOrderBehind_22 : decode cX4_isInOrderBehind 22 = .ok (.invokestatic 109, 3) := by decide +kernel
theorem dX4_isInOrderBehind_25 : decode cX4_isInOrderBehind 25 = .ok (.istore_n 3, 1) := by decide +kernel
theorem dX4_isInOrderBehind_26 : decode cX4_isInOrderBehind 26 = .ok (.iinc 4 1, 3) := by decide +kernel
theorem dX4_isInOrderBehind_29 : decode cX4_isInOrderBehind 29 = .ok (.goto (-24), 3) := by decide +kernel
theorem dX4_isInOrderBehind_32 : decode cX4_isInOrderBehind 32 = .ok (.iload_n 3, 1) := by decide +kernel
theorem dX4_isInOrderBehind_33 : decode cX4_isInOrderBehind 33 = .ok (.ifCond .ne 7, 3) := by decide +kernel
theorem dX4_isInOrderBehind_36 : decode cX4_isInOrderBehind 36 = .ok (.iconst 1, 1) := by decide +kernel
theorem dX4_isInOrderBehind_37 : decode cX4_isInOrderBehind 37 = .ok (.goto 4, 3) := by decide +kernel
theorem dX4_isInOrderBehind_40 : decode cX4_isInOrderBehind 40 = .ok (.iconst 0, 1) := by decide +kernel
theorem dX4_isInOrderBehind_41 : decode cX4_isInOrderBehind 41 = .ok (.ireturn, 1) := by decide +kernel
theorem dX0_init_0 : decode cX0_init 0 = .ok (.aload_n 0, 1) := by decide +kernel
theorem dX0_init_1 : decode cX0_init 1 = .ok (.invokespecial 3, 3) := by decide +kernel
theorem dX0_init_4 : decode cX0_init 4 = .ok (.aload_n 0, 1) := by decide +kernel
theorem dX0_init_5 : decode cX0_init 5 = .ok (.bipush 6, 2) := by decide +kernel
theorem dX0_init_7 : decode cX0_init 7 = .ok (.newarray .int, 2) := by decide +kernel
theorem dX0_init_9 : decode cX0_init 9 = .ok (.putfield 9, 3) := by decide +kernel
theorem dX0_init_12 : decode cX0_init 12 = .ok (.aload_n 0, 1) := by decide +kernel
theorem dX0_init_13 : decode cX0_init 13 = .ok (.getfield 9, 3) := by decide +kernel
theorem dX0_init_16 : decode cX0_init 16 = .ok (.iconst 0, 1) := by decide +kernel
theorem dX0_init_17 : decode cX0_init 17 = .ok (.iload_n 1, 1) := by decide +kernel
theorem dX0_init_18 : decode cX0_init 18 = .ok (.invokestatic 15, 3) := by decide +kernel
theorem dX0_init_21 : decode cX0_init 21 = .ok (.aload_n 0, 1) := by decide +kernel
theorem dX0_init_22 : decode cX0_init 22 = .ok (.iconst 1, 1) := by decide +kernel
theorem dX0_init_23 : decode cX0_init 23 = .ok (.putfield 21, 3) := by decide +kernel
theorem dX0_init_26 : decode cX0_init 26 = .ok (.aload_n 0, 1) := by decide +kernel
theorem dX0_init_27 : decode cX0_init 27 = .ok (.getstatic 25, 3) := by decide +kernel
theorem dX0_init_30 : decode cX0_init 30 = .ok (.iload_n 1, 1) := by decide +kernel
theorem dX0_init_31 : decode cX0_init 31 = .ok (.invokestatic 28, 3) := by decide +kernel
theorem dX0_init_34 : decode cX0_init 34 = .ok (.putfield 32, 3) := by decide +kernel
theorem dX0_init_37 : decode cX0_init 37 = .ok (.aload_n 0, 1) := by decide +kernel
theorem dX0_init_38 : decode cX0_init 38 = .ok (.getstatic 35, 3) := by decide +kernel
theorem dX0_init_41 : decode cX0_init 41 = .ok (.iload_n 1, 1) := by decide +kernel
theorem dX0_init_42 : decode cX0_init 42 = .ok (.invokestatic 28, 3) := by decide +kernel
theorem dX0_init_45 : decode cX0_init 45 = .ok (.putfield 38, 3) := by decide +kernel
theorem dX0_init_48 : decode cX0_init 48 = .ok (.return_, 1) := by decide +kernel
theorem dX0_append_0 : decode cX0_append 0 = .ok (.aload_n 0, 1) := by decide +kernel
theorem dX0_append_1 : decode cX0_append 1 = .ok (.getfield 9, 3) := by decide +kernel
theorem dX0_append_4 : decode cX0_append 4 = .ok (.aload_n 0, 1) := by decide +kernel
theorem dX0_append_5 : decode cX0_append 5 = .ok (.getfield 21, 3) := by decide +kernel
theorem dX0_append_8 : decode cX0_append 8 = .ok (.iload_n 1, 1) := by decide +kernel
theorem dX0_append_9 : decode cX0_append 9 = .ok (.invokestatic 15, 3) := by decide +kernel
theorem dX0_append_12 : decode cX0_append 12 = .ok (.aload_n 0, 1) := by decide +kernel
theorem dX0_append_13 : decode cX0_append 13 = .ok (.dup, 1) := by decide +kernel
theorem dX0_append_14 : decode cX0_append 14 = .ok (.getfield 21, 3) := by decide +kernel
theorem dX0_append_17 : decode cX0_append 17 = .ok (.iconst 1, 1) := by decide +kernel
theorem dX0_append_18 : decode cX0_append 18 = .ok (.iadd, 1) := by decide +kernel
theorem dX0_append_19 : decode cX0_append 19 = .ok (.putfield 21, 3) := by decide +kernel
theorem dX0_append_22 : decode cX0_append 22 = .ok (.aload_n 0, 1) := by decide +kernel
theorem dX0_append_23 : decode cX0_append 23 = .ok (.getstatic 35, 3) := by decide +kernel
theorem dX0_append_26 : decode cX0_append 26 = .ok (.iload_n 1, 1) := by decide +kernel
theorem dX0_append_27 : decode cX0_append 27 = .ok (.invokestatic 28, 3) := by decide +kernel
theorem dX0_append_30 : decode cX0_append 30 = .ok (.putfield 38, 3) := by decide +kernel
theorem dX0_append_33 : decode cX0_append 33 = .ok (.aload_n 0, 1) := by decide +kernel
theorem dX0_append_34 : decode cX0_append 34 = .ok (.iconst 0, 1) := by decide +kernel
theorem dX0_append_35 : decode cX0_append 35 = .ok (.putfield 41, 3) := by decide +kernel
theorem dX0_append_38 : decode cX0_append 38 = .ok (.return_, 1) := by decide +kernel
theorem dX0_stepAt_0 : decode cX0_stepAt 0 = .ok (.iload_n 1, 1) := by decide +kernel
theorem dX0_stepAt_1 : decode cX0_stepAt 1 = .ok (.ifCond .lt 21, 3) := by decide +kernel
theorem dX0_stepAt_4 : decode cX0_stepAt 4 = .ok (.iload_n 1, 1) := by decide +kernel
theorem dX0_stepAt_5 : decode cX0_stepAt 5 = .ok (.aload_n 0, 1) := by decide +kernel
theorem dX0_stepAt_6 : decode cX0_stepAt 6 = .ok (.getfield 9, 3) := by decide +kernel
theorem dX0_stepAt_9 : decode cX0_stepAt 9 = .ok (.arraylength, 1) := by decide +kernel
theorem dX0_stepAt_10 : decode cX0_stepAt 10 = .ok (.if_icmp .ge 12, 3) := by decide +kernel
theorem dX0_stepAt_13 : decode cX0_stepAt 13 = .ok (.aload_n 0, 1) := by decide +kernel
theorem dX0_stepAt_14 : decode cX0_stepAt 14 = .ok (.getfield 9, 3) := by decide +kernel
theorem dX0_stepAt_17 : decode cX0_stepAt 17 = .ok (.iload_n 1, 1) := by decide +kernel
theorem dX0_stepAt_18 : decode cX0_stepAt 18 = .ok (.iaload, 1) := by decide +kernel
theorem dX0_stepAt_19 : decode cX0_stepAt 19 = .ok (.goto 4, 3) := by decide +kernel
theorem dX0_stepAt_22 : decode cX0_stepAt 22 = .ok (.iconst 0, 1) := by decide +kernel
theorem dX0_stepAt_23 : decode cX0_stepAt 23 = .ok (.ireturn, 1) := by decide +kernel
theorem dX0_isMove_0 : decode cX0_isMove 0 = .ok (.aload_n 0, 1) := by decide +kernel
theorem dX0_isMove_1 : decode cX0_isMove 1 = .ok (.getfield 32, 3) := by decide +kernel
theorem dX0_isMove_4 : decode cX0_isMove 4 = .ok (.aload_n 0, 1) := by decide +kernel
theorem dX0_isMove_5 : decode cX0_isMove 5 = .ok (.getfield 38, 3) := by decide +kernel
theorem dX0_isMove_8 : decode cX0_isMove 8 = .ok (.if_icmp .ne 7, 3) := by decide +kernel
theorem dX0_isMove_11 : decode cX0_isMove 11 = .ok (.iconst 1, 1) := by decide +kernel
theorem dX0_isMove_12 : decode cX0_isMove 12 = .ok (.goto 4, 3) := by decide +kernel
theorem dX0_isMove_15 : decode cX0_isMove 15 = .ok (.iconst 0, 1) := by decide +kernel
theorem dX0_isMove_16 : decode cX0_isMove 16 = .ok (.ireturn, 1) := by decide +kernel
theorem dX6_init_0 : decode cX6_init 0 = .ok (.aload_n 0, 1) := by decide +kernel
theorem dX6_init_1 : decode cX6_init 1 = .ok (.invokespecial 3, 3) := by decide +kernel
theorem dX6_init_4 : decode cX6_init 4 = .ok (.getstatic 9, 3) := by decide +kernel
theorem dX6_init_7 : decode cX6_init 7 = .ok (.bipush 6, 2) := by decide +kernel
theorem dX6_init_9 : decode cX6_init 9 = .ok (.invokestatic 13, 3) := by decide +kernel
theorem dX6_init_12 : decode cX6_init 12 = .ok (.iconst 0, 1) := by decide +kernel
theorem dX6_init_13 : decode cX6_init 13 = .ok (.invokestatic 19, 3) := by decide +kernel
theorem dX6_init_16 : decode cX6_init 16 = .ok (.istore_n 1, 1) := by decide +kernel
theorem dX6_init_17 : decode cX6_init 17 = .ok (.aload_n 0, 1) := by decide +kernel
theorem dX6_init_18 : decode cX6_init 18 = .ok (.iload_n 1, 1) := by decide +kernel
theorem dX6_init_19 : decode cX6_init 19 = .ok (.newarray .int, 2) := by decide +kernel
theorem dX6_init_21 : decode cX6_init 21 = .ok (.putfield 25, 3) := by decide +kernel
theorem dX6_init_24 : decode cX6_init 24 = .ok (.aload_n 0, 1) := by decide +kernel
theorem dX6_init_25 : decode cX6_init 25 = .ok (.iload_n 1, 1) := by decide +kernel
theorem dX6_init_26 : decode cX6_init 26 = .ok (.newarray .boolean, 2) := by decide +kernel
theorem dX6_init_28 : decode cX6_init 28 = .ok (.putfield 30, 3) := by decide +kernel
theorem dX6_init_31 : decode cX6_init 31 = .ok (.return_, 1) := by decide +kernel
theorem dX6_take_0 : decode cX6_take 0 = .ok (.aload_n 1, 1) := by decide +kernel
theorem dX6_take_1 : decode cX6_take 1 = .ok (.getfield 34, 3) := by decide +kernel
theorem dX6_take_4 : decode cX6_take 4 = .ok (.aload_n 2, 1) := by decide +kernel
theorem dX6_take_5 : decode cX6_take 5 = .ok (.getfield 40, 3) := by decide +kernel
theorem dX6_take_8 : decode cX6_take 8 = .ok (.if_icmp .ne 4, 3) := by decide +kernel
theorem dX6_take_11 : decode cX6_take 11 = .ok (.return_, 1) := by decide +kernel
theorem dX6_take_12 : decode cX6_take 12 = .ok (.aload_n 1, 1) := by decide +kernel
theorem dX6_take_13 : decode cX6_take 13 = .ok (.aload_n 2, 1) := by decide +kernel
theorem dX6_take_14 : decode cX6_take 14 = .ok (.getfield 40, 3) := by decide +kernel
theorem dX6_take_17 : decode cX6_take 17 = .ok (.putfield 34, 3) := by decide +kernel
theorem dX6_take_20 : decode cX6_take 20 = .ok (.aload_n 2, 1) := by decide +kernel
theorem dX6_take_21 : decode cX6_take 21 = .ok (.aload_n 1, 1) := by decide +kernel
theorem dX6_take_22 : decode cX6_take 22 = .ok (.getfield 45, 3) := by decide +kernel
theorem dX6_take_25 : decode cX6_take 25 = .ok (.invokevirtual 48, 3) := by decide +kernel
theorem dX6_take_28 : decode cX6_take 28 = .ok (.istore_n 3, 1) := by decide +kernel
theorem dX6_take_29 : decode cX6_take 29 = .ok (.iconst 0, 1) := by decide +kernel
theorem dX6_take_30 : decode cX6_take 30 = .ok (.istore 4, 2) := by decide +kernel
theorem dX6_take_32 : decode cX6_take 32 = .ok (.iload 4, 2) := by decide +kernel
theorem dX6_take_34 : decode cX6_take 34 = .ok (.iload_n 3, 1) := by decide +kernel
theorem dX6_take_35 : decode cX6_take 35 = .ok (.if_icmp .ge 25, 3) := by decide +kernel
theorem dX6_take_38 : decode cX6_take 38 = .ok (.aload_n 0, 1) := by decide +kernel
theorem dX6_take_39 : decode cX6_take 39 = .ok (.getfield 25, 3) := by decide +kernel
theorem dX6_take_42 : decode cX6_take 42 = .ok (.iload 4, 2) := by decide +kernel
theorem dX6_take_44 : decode cX6_take 44 = .ok (.aload_n 2, 1) := by decide +kernel
theorem dX6_take_45 : decode cX6_take 45 = .ok (.aload_n 1, 1) := by decide +kernel
theorem dX6_take_46 : decode cX6_take 46 = .ok (.iload 4, 2) := by decide +kernel
theorem dX6_take_48 : decode cX6_take 48 = .ok (.invokevirtual 52, 3) := by decide +kernel
theorem dX6_take_51 : decode cX6_take 51 = .ok (.invokestatic 56, 3) := by decide +kernel
theorem dX6_take_54 : decode cX6_take 54 = .ok (.iinc 4 1, 3) := by decide +kernel
theorem dX6_take_57 : decode cX6_take 57 = .ok (.goto (-25), 3) := by decide +kernel
theorem dX6_take_60 : decode cX6_take 60 = .ok (.aload_n 1, 1) := by decide +kernel
theorem dX6_take_61 : decode cX6_take 61 = .ok (.aload_n 0, 1) := by decide +kernel
theorem dX6_take_62 : decode cX6_take 62 = .ok (.iload_n 3, 1) := by decide +kernel
theorem dX6_take_63 : decode cX6_take 63 = .ok (.invokevirtual 60, 3) := by decide +kernel
theorem dX6_take_66 : decode cX6_take 66 = .ok (.putfield 63, 3) := by decide +kernel
theorem dX6_take_69 : decode cX6_take 69 = .ok (.aload_n 1, 1) := by decide +kernel
theorem dX6_take_70 : decode cX6_take 70 = .ok (.aload_n 1, 1) := by decide +kernel
theorem dX6_take_71 : decode cX6_take 71 = .ok (.invokevirtual 66, 3) := by decide +kernel
theorem dX6_take_74 : decode cX6_take 74 = .ok (.ifCond .eq 11, 3) := by decide +kernel
theorem dX6_take_77 : decode cX6_take 77 = .ok (.aload_n 0, 1) := by decide +kernel
theorem dX6_take_78 : decode cX6_take 78 = .ok (.iload_n 3, 1) := by decide +kernel
theorem dX6_take_79 : decode cX6_take 79 = .ok (.invokevirtual 70, 3) := by decide +kernel
theorem dX6_take_82 : decode cX6_take 82 = .ok (.goto 4, 3) := by decide +kernel
theorem dX6_take_85 : decode cX6_take 85 = .ok (.iconst (-1), 1) := by decide +kernel
theorem dX6_take_86 : decode cX6_take 86 = .ok (.putfield 73, 3) := by decide +kernel
theorem dX6_take_89 : decode cX6_take 89 = .ok (.aload_n 1, 1) := by decide +kernel
theorem dX6_take_90 : decode cX6_take 90 = .ok (.iconst (-1), 1) := by decide +kernel
theorem dX6_take_91 : decode cX6_take 91 = .ok (.putfield 76, 3) := by decide +kernel
theorem dX6_take_94 : decode cX6_take 94 = .ok (.aload_n 1, 1) := by decide +kernel
theorem dX6_take_95 : decode cX6_take 95 = .ok (.ldc2_w 79, 3) := by decide +kernel
theorem dX6_take_98 : decode cX6_take 98 = .ok (.putfield 81, 3) := by decide +kernel
theorem dX6_take_101 : decode cX6_take 101 = .ok (.aload_n 1, 1) := by decide +kernel
theorem dX6_take_102 : decode cX6_take 102 = .ok (.invokevirtual 66, 3) := by decide +kernel
theorem dX6_take_105 : decode cX6_take 105 = .ok (.ifCond .eq 17, 3) := by decide +kernel
theorem dX6_take_108 : decode cX6_take 108 = .ok (.aload_n 1, 1) := by decide +kernel
theorem dX6_take_109 : decode cX6_take 109 = .ok (.getfield 63, 3) := by decide +kernel
theorem dX6_take_112 : decode cX6_take 112 = .ok (.iload_n 3, 1) := by decide +kernel
theorem dX6_take_113 : decode cX6_take 113 = .ok (.if_icmp .ne 9, 3) := by decide +kernel
theorem dX6_take_116 : decode cX6_take 116 = .ok (.aload_n 0, 1) := by decide +kernel
theorem dX6_take_117 : decode cX6_take 117 = .ok (.aload_n 1, 1) := by decide +kernel
theorem dX6_take_118 : decode cX6_take 118 = .ok (.iload_n 3, 1) := by decide +kernel
theorem dX6_take_119 : decode cX6_take 119 = .ok (.invokevirtual 85, 3) := by decide +kernel
theorem dX6_take_122 : decode cX6_take 122 = .ok (.return_, 1) := by decide +kernel
theorem dX6_countDistinct_0 : decode cX6_countDistinct 0 = .ok (.aload_n 0, 1) := by decide +kernel
theorem dX6_countDistinct_1 : decode cX6_countDistinct 1 = .ok (.invokevirtual 89, 3) := by decide +kernel
theorem dX6_countDistinct_4 : decode cX6_countDistinct 4 = .ok (.iconst 0, 1) := by decide +kernel
theorem dX6_countDistinct_5 : decode cX6_countDistinct 5 = .ok (.istore_n 2, 1) := by decide +kernel
theorem dX6_countDistinct_6 : decode cX6_countDistinct 6 = .ok (.iconst 0, 1) := by decide +kernel
theorem dX6_countDistinct_7 : decode cX6_countDistinct 7 = .ok (.istore_n 3, 1) := by decide +kernel
theorem dX6_countDistinct_8 : decode cX6_countDistinct 8 = .ok (.iload_n 3, 1) := by decide +kernel
theorem dX6_countDistinct_9 : decode cX6_countDistinct 9 = .ok (.iload_n 1, 1) := by decide +kernel
theorem dX6_countDistinct_10 : decode cX6_countDistinct 10 = .ok (.if_icmp .ge 27, 3) := by decide +kernel
theorem dX6_countDistinct_13 : decode cX6_countDistinct 13 = .ok (.aload_n 0, 1) := by decide +kernel
theorem dX6_countDistinct_14 : decode cX6_countDistinct 14 = .ok (.aload_n 0, 1) := by decide +kernel
theorem dX6_countDistinct_15 : decode cX6_countDistinct 15 = .ok (.getfield 25, 3) := by decide +kernel
theorem dX6_countDistinct_18 : decode cX6_countDistinct 18 = .ok (.iload_n 3, 1) := by decide +kernel
theorem dX6_countDistinct_19 : decode cX6_countDistinct 19 = .ok (.invokestatic 13, 3) := by decide +kernel
theorem dX6_countDistinct_22 : decode cX6_countDistinct 22 = .ok (.invokevirtual 92, 3) := by decide +kernel
theorem dX6_countDistinct_25 : decode cX6_countDistinct 25 = .ok (.ifCond .eq 6, 3) := by decide +kernel
theorem dX6_countDistinct_28 : decode cX6_countDistinct 28 = .ok (.iinc 2 1, 3) := by decide +kernel
theorem dX6_countDistinct_31 : decode cX6_countDistinct 31 = .ok (.iinc 3 1, 3) := by decide +kernel
theorem dX6_countDistinct_34 : decode cX6_countDistinct 34 = .ok (.goto (-26), 3) := by decide +kernel
theorem dX6_countDistinct_37 : decode cX6_countDistinct 37 = .ok (.iload_n 2, 1) := by decide +kernel
theorem dX6_countDistinct_38 : decode cX6_countDistinct 38 = .ok (.ireturn, 1) := by decide +kernel
theorem dX6_countUnmoved_0 : decode cX6_countUnmoved 0 = .ok (.iconst 0, 1) := by decide +kernel
theorem dX6_countUnmoved_1 : decode cX6_countUnmoved 1 = .ok (.istore_n 2, 1) := by decide +kernel
theorem dX6_countUnmoved_2 : decode cX6_countUnmoved 2 = .ok (.iconst 0, 1) := by decide +kernel
theorem dX6_countUnmoved_3 : decode cX6_countUnmoved 3 = .ok (.istore_n 3, 1) := by decide +kernel
theorem dX6_countUnmoved_4 : decode cX6_countUnmoved 4 = .ok (.iload_n 3, 1) := by decide +kernel
theorem dX6_countUnmoved_5 : decode cX6_countUnmoved 5 = .ok (.iload_n 1, 1) := by decide +kernel
theorem dX6_countUnmoved_6 : decode cX6_countUnmoved 6 = .ok (.if_icmp .ge 24, 3) := by decide +kernel
theorem dX6_countUnmoved_9 : decode cX6_countUnmoved 9 = .ok (.aload_n 0, 1) := by decide +kernel
theorem dX6_countUnmoved_10 : decode cX6_countUnmoved 10 = .ok (.getfield 25, 3) := by decide +kernel
theorem dX6_countUnmoved_13 : decode cX6_countUnmoved 13 = .ok (.iload_n 3, 1) := by decide +kernel
theorem dX6_countUnmoved_14 : decode cX6_countUnmoved 14 = .ok (.invokestatic 13, 3) := by decide +kernel
theorem dX6_countUnmoved_17 : decode cX6_countUnmoved 17 = .ok (.iload_n 3, 1) := by decide +kernel
theorem dX6_countUnmoved_18 : decode cX6_countUnmoved 18 = .ok (.if_icmp .ne 6, 3) := by decide +kernel
theorem dX6_countUnmoved_21 : decode cX6_countUnmoved 21 = .ok (.iinc 2 1, 3) := by decide +kernel
theorem dX6_countUnmoved_24 : decode cX6_countUnmoved 24 = .ok (.iinc 3 1, 3) := by decide +kernel
theorem dX6_countUnmoved_27 : decode cX6_countUnmoved 27 = .ok (.goto (-23), 3) := by decide +kernel
theorem dX6_countUnmoved_30 : decode cX6_countUnmoved 30 = .ok (.iload_n 2, 1) := by decide +kernel
theorem dX6_countUnmoved_31 : decode cX6_countUnmoved 31 = .ok (.ireturn, 1) := by decide +kernel
theorem dX6_followRounds_0 : decode cX6_followRounds 0 = .ok (.aload_n 0, 1) := by decide +kernel
theorem dX6_followRounds_1 : decode cX6_followRounds 1 = .ok (.invokevirtual 89, 3) := by decide +kernel
theorem dX6_followRounds_4 : decode cX6_followRounds 4 = .ok (.aload_n 1, 1) := by decide +kernel
theorem dX6_followRounds_5 : decode cX6_followRounds 5 = .ok (.iconst 0, 1) := by decide +kernel
theorem dX6_followRounds_6 : decode cX6_followRounds 6 = .ok (.putfield 76, 3) := by decide +kernel
theorem dX6_followRounds_9 : decode cX6_followRounds 9 = .ok (.aload_n 1, 1) := by decide +kernel
theorem dX6_followRounds_10 : decode cX6_followRounds 10 = .ok (.lconst 1, 1) := by decide +kernel
theorem dX6_followRounds_11 : decode cX6_followRounds 11 = .ok (.putfield 81, 3) := by decide +kernel
theorem dX6_followRounds_14 : decode cX6_followRounds 14 = .ok (.iconst 0, 1) := by decide +kernel
theorem dX6_followRounds_15 : decode cX6_followRounds 15 = .ok (.istore_n 3, 1) := by decide +kernel
theorem dX6_followRounds_16 : decode cX6_followRounds 16 = .ok (.iload_n 3, 1) := by decide +kernel
theorem dX6_followRounds_17 : decode cX6_followRounds 17 = .ok (.iload_n 2, 1) := by decide +kernel
theorem dX6_followRounds_18 : decode cX6_followRounds 18 = .ok (.if_icmp .ge 45, 3) := by decide +kernel
theorem dX6_followRounds_21 : decode cX6_followRounds 21 = .ok (.aload_n 0, 1) := by decide +kernel
theorem dX6_followRounds_22 : decode cX6_followRounds 22 = .ok (.iload_n 3, 1) := by decide +kernel
theorem dX6_followRounds_23 : decode cX6_followRounds 23 = .ok (.iload_n 2, 1) := by decide +kernel
theorem dX6_followRounds_24 : decode cX6_followRounds 24 = .ok (.invokevirtual 96, 3) := by decide +kernel
theorem dX6_followRounds_27 : decode cX6_followRounds 27 = .ok (.istore 4, 2) := by decide +kernel
theorem dX6_followRounds_29 : decode cX6_followRounds 29 = .ok (.iload 4, 2) := by decide +kernel
theorem dX6_followRounds_31 : decode cX6_followRounds 31 = .ok (.ifCond .le 26, 3) := by decide +kernel
theorem dX6_followRounds_34 : decode cX6_followRounds 34 = .ok (.aload_n 1, 1) := by decide +kernel
theorem dX6_followRounds_35 : decode cX6_followRounds 35 = .ok (.dup, 1) := by decide +kernel
theorem dX6_followRounds_36 : decode cX6_followRounds 36 = .ok (.getfield 76, 3) := by decide +kernel
theorem dX6_followRounds_39 : decode cX6_followRounds 39 = .ok (.iconst 1, 1) := by decide +kernel
theorem dX6_followRounds_40 : decode cX6_followRounds 40 = .ok (.iadd, 1) := by decide +kernel
theorem dX6_followRounds_41 : decode cX6_followRounds 41 = .ok (.putfield 76, 3) := by decide +kernel
theorem dX6_followRounds_44 : decode cX6_followRounds 44 = .ok (.aload_n 1, 1) := by decide +kernel
theorem dX6_followRounds_45 : decode cX6_followRounds 45 = .ok (.aload_n 1, 1) := by decide +kernel
theorem dX6_followRounds_46 : decode cX6_followRounds 46 = .ok (.getfield 81, 3) := by decide +kernel
theorem dX6_followRounds_49 : decode cX6_followRounds 49 = .ok (.iload 4, 2) := by decide +kernel
theorem dX6_followRounds_51 : decode cX6_followRounds 51 = .ok (.invokestatic 99, 3) := by decide +kernel
theorem dX6_followRounds_54 : decode cX6_followRounds 54 = .ok (.putfield 81, 3) := by decide +kernel
theorem dX6_followRounds_57 : decode cX6_followRounds 57 = .ok (.iinc 3 1, 3) := by decide +kernel
theorem dX6_followRounds_60 : decode cX6_followRounds 60 = .ok (.goto (-44), 3) := by decide +kernel
theorem dX6_followRounds_63 : decode cX6_followRounds 63 = .ok (.return_, 1) := by decide +kernel
theorem dX6_roundLength_0 : decode cX6_roundLength 0 = .ok (.iconst 0, 1) := by decide +kernel
theorem dX6_roundLength_1 : decode cX6_roundLength 1 = .ok (.istore_n 3, 1) := by decide +kernel
theorem dX6_roundLength_2 : decode cX6_roundLength 2 = .ok (.iload_n 1, 1) := by decide +kernel
theorem dX6_roundLength_3 : decode cX6_roundLength 3 = .ok (.istore 4, 2) := by decide +kernel
theorem dX6_roundLength_5 : decode cX6_roundLength 5 = .ok (.iload_n 3, 1) := by decide +kernel
theorem dX6_roundLength_6 : decode cX6_roundLength 6 = .ok (.iload_n 2, 1) := by decide +kernel
theorem dX6_roundLength_7 : decode cX6_roundLength 7 = .ok (.if_icmp .ge 29, 3) := by decide +kernel
theorem dX6_roundLength_10 : decode cX6_roundLength 10 = .ok (.aload_n 0, 1) := by decide +kernel
theorem dX6_roundLength_11 : decode cX6_roundLength 11 = .ok (.iload 4, 2) := by decide +kernel
theorem dX6_roundLength_13 : decode cX6_roundLength 13 = .ok (.invokevirtual 92, 3) := by decide +kernel
theorem dX6_roundLength_16 : decode cX6_roundLength 16 = .ok (.ifCond .eq 20, 3) := by decide +kernel
theorem dX6_roundLength_19 : decode cX6_roundLength 19 = .ok (.iinc 3 1, 3) := by decide +kernel
theorem dX6_roundLength_22 : decode cX6_roundLength 22 = .ok (.aload_n 0, 1) := by decide +kernel
theorem dX6_roundLength_23 : decode cX6_roundLength 23 = .ok (.getfield 25, 3) := by decide +kernel
theorem dX6_roundLength_26 : decode cX6_roundLength 26 = .ok (.iload 4, 2) := by decide +kernel
theorem dX6_roundLength_28 : decode cX6_roundLength 28 = .ok (.invokestatic 13, 3) := by decide +kernel
theorem dX6_roundLength_31 : decode cX6_roundLength 31 = .ok (.istore 4, 2) := by decide +kernel
theorem dX6_roundLength_33 : decode cX6_roundLength 33 = .ok (.goto (-28), 3) := by decide +kernel
theorem dX6_roundLength_36 : decode cX6_roundLength 36 = .ok (.iload_n 3, 1) := by decide +kernel
theorem dX6_roundLength_37 : decode cX6_roundLength 37 = .ok (.ireturn, 1) := by decide +kernel
theorem dX6_commonMultiple_0 : decode cX6_commonMultiple 0 = .ok (.iconst 1, 1) := by decide +kernel
theorem dX6_commonMultiple_1 : decode cX6_commonMultiple 1 = .ok (.istore_n 3, 1) := by decide +kernel
theorem dX6_commonMultiple_2 : decode cX6_commonMultiple 2 = .ok (.iload_n 3, 1) := by decide +kernel
theorem dX6_commonMultiple_3 : decode cX6_commonMultiple 3 = .ok (.iload_n 2, 1) := by decide +kernel
theorem dX6_commonMultiple_4 : decode cX6_commonMultiple 4 = .ok (.if_icmp .gt 26, 3) := by decide +kernel
theorem dX6_commonMultiple_7 : decode cX6_commonMultiple 7 = .ok (.lload_n 0, 1) := by decide +kernel
theorem dX6_commonMultiple_8 : decode cX6_commonMultiple 8 = .ok (.iload_n 3, 1) := by decide +kernel
theorem dX6_commonMultiple_9 : decode cX6_commonMultiple 9 = .ok (.i2l, 1) := by decide +kernel
theorem dX6_commonMultiple_10 : decode cX6_commonMultiple 10 = .ok (.lmul, 1) := by decide +kernel
theorem dX6_commonMultiple_11 : decode cX6_commonMultiple 11 = .ok (.iload_n 2, 1) := by decide +kernel
theorem dX6_commonMultiple_12 : decode cX6_commonMultiple 12 = .ok (.i2l, 1) := by decide +kernel
theorem dX6_commonMultiple_13 : decode cX6_commonMultiple 13 = .ok (.lrem, 1) := by decide +kernel
theorem dX6_commonMultiple_14 : decode cX6_commonMultiple 14 = .ok (.lconst 0, 1) := by decide +kernel
theorem dX6_commonMultiple_15 : decode cX6_commonMultiple 15 = .ok (.lcmp, 1) := by decide +kernel
theorem dX6_commonMultiple_16 : decode cX6_commonMultiple 16 = .ok (.ifCond .ne 8, 3) := by decide +kernel
theorem dX6_commonMultiple_19 : decode cX6_commonMultiple 19 = .ok (.lload_n 0, 1) := by decide +kernel
theorem dX6_commonMultiple_20 : decode cX6_commonMultiple 20 = .ok (.iload_n 3, 1) := by decide +kernel
theorem dX6_commonMultiple_21 : decode cX6_commonMultiple 21 = .ok (.i2l, 1) := by decide +kernel
theorem dX6_commonMultiple_22 : decode cX6_commonMultiple 22 = .ok (.lmul, 1) := by decide +kernel
theorem dX6_commonMultiple_23 : decode cX6_commonMultiple 23 = .ok (.lreturn, 1) := by decide +kernel
theorem dX6_commonMultiple_24 : decode cX6_commonMultiple 24 = .ok (.iinc 3 1, 3) := by decide +kernel
theorem dX6_commonMultiple_27 : decode cX6_commonMultiple 27 = .ok (.goto (-25), 3) := by decide +kernel
theorem dX6_commonMultiple_30 : decode cX6_commonMultiple 30 = .ok (.lload_n 0, 1) := by decide +kernel
theorem dX6_commonMultiple_31 : decode cX6_commonMultiple 31 = .ok (.lreturn, 1) := by decide +kernel
theorem dX6_forget_0 : decode cX6_forget 0 = .ok (.iconst 0, 1) := by decide +kernel
theorem dX6_forget_1 : decode cX6_forget 1 = .ok (.istore_n 1, 1) := by decide +kernel
theorem dX6_forget_2 : decode cX6_forget 2 = .ok (.iload_n 1, 1) := by decide +kernel
theorem dX6_forget_3 : decode cX6_forget 3 = .ok (.aload_n 0, 1) := by decide +kernel
theorem dX6_forget_4 : decode cX6_forget 4 = .ok (.getfield 30, 3) := by decide +kernel
theorem dX6_forget_7 : decode cX6_forget 7 = .ok (.arraylength, 1) := by decide +kernel
theorem dX6_forget_8 : decode cX6_forget 8 = .ok (.if_icmp .ge 16, 3) := by decide +kernel
theorem dX6_forget_11 : decode cX6_forget 11 = .ok (.aload_n 0, 1) := by decide +kernel
theorem dX6_forget_12 : decode cX6_forget 12 = .ok (.getfield 30, 3) := by decide +kernel
theorem dX6_forget_15 : decode cX6_forget 15 = .ok (.iload_n 1, 1) := by decide +kernel
theorem dX6_forget_16 : decode cX6_forget 16 = .ok (.iconst 0, 1) := by decide +kernel
theorem dX6_forget_17 : decode cX6_forget 17 = .ok (.bastore, 1) := by decide +kernel
theorem dX6_forget_18 : decode cX6_forget 18 = .ok (.iinc 1 1, 3) := by decide +kernel
theorem dX6_forget_21 : decode cX6_forget 21 = .ok (.goto (-19), 3) := by decide +kernel
theorem dX6_forget_24 : decode cX6_forget 24 = .ok (.return_, 1) := by decide +kernel
theorem dX6_meet_0 : decode cX6_meet 0 = .ok (.iload_n 1, 1) := by decide +kernel
theorem dX6_meet_1 : decode cX6_meet 1 = .ok (.ifCond .lt 21, 3) := by decide +kernel
theorem dX6_meet_4 : decode cX6_meet 4 = .ok (.iload_n 1, 1) := by decide +kernel
theorem dX6_meet_5 : decode cX6_meet 5 = .ok (.aload_n 0, 1) := by decide +kernel
theorem dX6_meet_6 : decode cX6_meet 6 = .ok (.getfield 30, 3) := by decide +kernel
theorem dX6_meet_9 : decode cX6_meet 9 = .ok (.arraylength, 1) := by decide +kernel
theorem dX6_meet_10 : decode cX6_meet 10 = .ok (.if_icmp .ge 12, 3) := by decide +kernel
theorem dX6_meet_13 : decode cX6_meet 13 = .ok (.aload_n 0, 1) := by decide +kernel
theorem dX6_meet_14 : decode cX6_meet 14 = .ok (.getfield 30, 3) := by decide +kernel
theorem dX6_meet_17 : decode cX6_meet 17 = .ok (.iload_n 1, 1) := by decide +kernel
theorem dX6_meet_18 : decode cX6_meet 18 = .ok (.baload, 1) := by decide +kernel
theorem dX6_meet_19 : decode cX6_meet 19 = .ok (.ifCond .eq 5, 3) := by decide +kernel
theorem dX6_meet_22 : decode cX6_meet 22 = .ok (.iconst 0, 1) := by decide +kernel
theorem dX6_meet_23 : decode cX6_meet 23 = .ok (.ireturn, 1) := by decide +kernel
theorem dX6_meet_24 : decode cX6_meet 24 = .ok (.aload_n 0, 1) := by decide +kernel
theorem dX6_meet_25 : decode cX6_meet 25 = .ok (.getfield 30, 3) := by decide +kernel
theorem dX6_meet_28 : decode cX6_meet 28 = .ok (.iload_n 1, 1) := by decide +kernel
theorem dX6_meet_29 : decode cX6_meet 29 = .ok (.iconst 1, 1) := by decide +kernel
theorem dX6_meet_30 : decode cX6_meet 30 = .ok (.bastore, 1) := by decide +kernel
theorem dX6_meet_31 : decode cX6_meet 31 = .ok (.iconst 1, 1) := by decide +kernel
theorem dX6_meet_32 : decode cX6_meet 32 = .ok (.ireturn, 1) := by decide +kernel
theorem dX8_init_0 : decode cX8_init 0 = .ok (.aload_n 0, 1) := by decide +kernel
theorem dX8_init_1 : decode cX8_init 1 = .ok (.invokespecial 1, 3) := by decide +kernel
theorem dX8_init_4 : decode cX8_init 4 = .ok (.aload_n 0, 1) := by decide +kernel
theorem dX8_init_5 : decode cX8_init 5 = .ok (.iload_n 1, 1) := by decide +kernel
theorem dX8_init_6 : decode cX8_init 6 = .ok (.putfield 7, 3) := by decide +kernel
theorem dX8_init_9 : decode cX8_init 9 = .ok (.aload_n 0, 1) := by decide +kernel
theorem dX8_init_10 : decode cX8_init 10 = .ok (.iload_n 2, 1) := by decide +kernel
theorem dX8_init_11 : decode cX8_init 11 = .ok (.putfield 13, 3) := by decide +kernel
theorem dX8_init_14 : decode cX8_init 14 = .ok (.aload_n 0, 1) := by decide +kernel
theorem dX8_init_15 : decode cX8_init 15 = .ok (.iload_n 1, 1) := by decide +kernel
theorem dX8_init_16 : decode cX8_init 16 = .ok (.putfield 16, 3) := by decide +kernel
theorem dX8_init_19 : decode cX8_init 19 = .ok (.aload_n 0, 1) := by decide +kernel
theorem dX8_init_20 : decode cX8_init 20 = .ok (.iload_n 2, 1) := by decide +kernel
theorem dX8_init_21 : decode cX8_init 21 = .ok (.putfield 19, 3) := by decide +kernel
theorem dX8_init_24 : decode cX8_init 24 = .ok (.return_, 1) := by decide +kernel
theorem dX8_go_0 : decode cX8_go 0 = .ok (.aload_n 0, 1) := by decide +kernel
theorem dX8_go_1 : decode cX8_go 1 = .ok (.iload_n 1, 1) := by decide +kernel
theorem dX8_go_2 : decode cX8_go 2 = .ok (.putfield 16, 3) := by decide +kernel
theorem dX8_go_5 : decode cX8_go 5 = .ok (.aload_n 0, 1) := by decide +kernel
theorem dX8_go_6 : decode cX8_go 6 = .ok (.iload_n 2, 1) := by decide +kernel
theorem dX8_go_7 : decode cX8_go 7 = .ok (.putfield 19, 3) := by decide +kernel
theorem dX8_go_10 : decode cX8_go 10 = .ok (.aload_n 0, 1) := by decide +kernel
theorem dX8_go_11 : decode cX8_go 11 = .ok (.dup, 1) := by decide +kernel
theorem dX8_go_12 : decode cX8_go 12 = .ok (.getfield 22, 3) := by decide +kernel
theorem dX8_go_15 : decode cX8_go 15 = .ok (.iconst 1, 1) := by decide +kernel
theorem dX8_go_16 : decode cX8_go 16 = .ok (.iadd, 1) := by decide +kernel
theorem dX8_go_17 : decode cX8_go 17 = .ok (.putfield 22, 3) := by decide +kernel
theorem dX8_go_20 : decode cX8_go 20 = .ok (.aload_n 0, 1) := by decide +kernel
theorem dX8_go_21 : decode cX8_go 21 = .ok (.getfield 16, 3) := by decide +kernel
theorem dX8_go_24 : decode cX8_go 24 = .ok (.aload_n 0, 1) := by decide +kernel
theorem dX8_go_25 : decode cX8_go 25 = .ok (.getfield 7, 3) := by decide +kernel
theorem dX8_go_28 : decode cX8_go 28 = .ok (.if_icmp .ne 24, 3) := by decide +kernel
theorem dX8_go_31 : decode cX8_go 31 = .ok (.aload_n 0, 1) := by decide +kernel
theorem dX8_go_32 : decode cX8_go 32 = .ok (.getfield 19, 3) := by decide +kernel
theorem dX8_go_35 : decode cX8_go 35 = .ok (.aload_n 0, 1) := by decide +kernel
theorem dX8_go_36 : decode cX8_go 36 = .ok (.getfield 13, 3) := by decide +kernel
theorem dX8_go_39 : decode cX8_go 39 = .ok (.if_icmp .ne 13, 3) := by decide +kernel
theorem dX8_go_42 : decode cX8_go 42 = .ok (.aload_n 0, 1) := by decide +kernel
theorem dX8_go_43 : decode cX8_go 43 = .ok (.dup, 1) := by decide +kernel
theorem dX8_go_44 : decode cX8_go 44 = .ok (.getfield 25, 3) := by decide +kernel
theorem dX8_go_47 : decode cX8_go 47 = .ok (.iconst 1, 1) := by decide +kernel
theorem dX8_go_48 : decode cX8_go 48 = .ok (.iadd, 1) := by decide +kernel
theorem dX8_go_49 : decode cX8_go 49 = .ok (.putfield 25, 3) := by decide +kernel
theorem dX8_go_52 : decode cX8_go 52 = .ok (.return_, 1) := by decide +kernel
theorem dX1_init_0 : decode cX1_init 0 = .ok (.aload_n 0, 1) := by decide +kernel
theorem dX1_init_1 : decode cX1_init 1 = .ok (.invokespecial 1, 3) := by decide +kernel
theorem dX1_init_4 : decode cX1_init 4 = .ok (.aload_n 0, 1) := by decide +kernel
theorem dX1_init_5 : decode cX1_init 5 = .ok (.iload_n 1, 1) := by decide +kernel
theorem dX1_init_6 : decode cX1_init 6 = .ok (.putfield 7, 3) := by decide +kernel
theorem dX1_init_9 : decode cX1_init 9 = .ok (.aload_n 0, 1) := by decide +kernel
theorem dX1_init_10 : decode cX1_init 10 = .ok (.iload_n 2, 1) := by decide +kernel
theorem dX1_init_11 : decode cX1_init 11 = .ok (.putfield 13, 3) := by decide +kernel
theorem dX1_init_14 : decode cX1_init 14 = .ok (.aload_n 0, 1) := by decide +kernel
theorem dX1_init_15 : decode cX1_init 15 = .ok (.iload_n 3, 1) := by decide +kernel
theorem dX1_init_16 : decode cX1_init 16 = .ok (.putfield 16, 3) := by decide +kernel
theorem dX1_init_19 : decode cX1_init 19 = .ok (.return_, 1) := by decide +kernel
theorem dX1_note_0 : decode cX1_note 0 = .ok (.aload_n 0, 1) := by decide +kernel
theorem dX1_note_1 : decode cX1_note 1 = .ok (.dup, 1) := by decide +kernel
theorem dX1_note_2 : decode cX1_note 2 = .ok (.getfield 19, 3) := by decide +kernel
theorem dX1_note_5 : decode cX1_note 5 = .ok (.iconst 1, 1) := by decide +kernel
theorem dX1_note_6 : decode cX1_note 6 = .ok (.iload_n 1, 1) := by decide +kernel
theorem dX1_note_7 : decode cX1_note 7 = .ok (.ishl, 1) := by decide +kernel
theorem dX1_note_8 : decode cX1_note 8 = .ok (.ior, 1) := by decide +kernel
theorem dX1_note_9 : decode cX1_note 9 = .ok (.putfield 19, 3) := by decide +kernel
theorem dX1_note_12 : decode cX1_note 12 = .ok (.iload_n 2, 1) := by decide +kernel
theorem dX1_note_13 : decode cX1_note 13 = .ok (.ifCond .ne 15, 3) := by decide +kernel
theorem dX1_note_16 : decode cX1_note 16 = .ok (.aload_n 0, 1) := by decide +kernel
theorem dX1_note_17 : decode cX1_note 17 = .ok (.dup, 1) := by decide +kernel
theorem dX1_note_18 : decode cX1_note 18 = .ok (.getfield 22, 3) := by decide +kernel
theorem dX1_note_21 : decode cX1_note 21 = .ok (.iconst 1, 1) := by decide +kernel
theorem dX1_note_22 : decode cX1_note 22 = .ok (.iload_n 1, 1) := by decide +kernel
theorem dX1_note_23 : decode cX1_note 23 = .ok (.ishl, 1) := by decide +kernel
theorem dX1_note_24 : decode cX1_note 24 = .ok (.ior, 1) := by decide +kernel
theorem dX1_note_25 : decode cX1_note 25 = .ok (.putfield 22, 3) := by decide +kernel
theorem dX1_note_28 : decode cX1_note 28 = .ok (.return_, 1) := by decide +kernel
