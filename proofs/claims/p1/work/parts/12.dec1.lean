theorem dX4_rankOf_30 : decode cX4_rankOf 30 = .ok (.iload 4, 2) := by decide +kernel
theorem dX4_rankOf_32 : decode cX4_rankOf 32 = .ok (.iload 5, 2) := by decide +kernel
theorem dX4_rankOf_34 : decode cX4_rankOf 34 = .ok (.iadd, 1) := by decide +kernel
theorem dX4_rankOf_35 : decode cX4_rankOf 35 = .ok (.invokestatic 13, 3) := by decide +kernel
theorem dX4_rankOf_38 : decode cX4_rankOf 38 = .ok (.iload_n 2, 1) := by decide +kernel
theorem dX4_rankOf_39 : decode cX4_rankOf 39 = .ok (.if_icmp .gt 10, 3) := by decide +kernel
theorem dX4_rankOf_42 : decode cX4_rankOf 42 = .ok (.iload 4, 2) := by decide +kernel
theorem dX4_rankOf_44 : decode cX4_rankOf 44 = .ok (.iload 5, 2) := by decide +kernel
theorem dX4_rankOf_46 : decode cX4_rankOf 46 = .ok (.iadd, 1) := by decide +kernel
theorem dX4_rankOf_47 : decode cX4_rankOf 47 = .ok (.istore 4, 2) := by decide +kernel
theorem dX4_rankOf_49 : decode cX4_rankOf 49 = .ok (.iload 5, 2) := by decide +kernel
theorem dX4_rankOf_51 : decode cX4_rankOf 51 = .ok (.iconst 2, 1) := by decide +kernel
theorem dX4_rankOf_52 : decode cX4_rankOf 52 = .ok (.idiv, 1) := by decide +kernel
theorem dX4_rankOf_53 : decode cX4_rankOf 53 = .ok (.istore 5, 2) := by decide +kernel
theorem dX4_rankOf_55 : decode cX4_rankOf 55 = .ok (.goto (-41), 3) := by decide +kernel
theorem dX4_rankOf_58 : decode cX4_rankOf 58 = .ok (.iload 4, 2) := by decide +kernel
theorem dX4_rankOf_60 : decode cX4_rankOf 60 = .ok (.ifCond .lt 18, 3) := by decide +kernel
theorem dX4_rankOf_63 : decode cX4_rankOf 63 = .ok (.aload_n 3, 1) := by decide +kernel
theorem dX4_rankOf_64 : decode cX4_rankOf 64 = .ok (.iload 4, 2) := by decide +kernel
theorem dX4_rankOf_66 : decode cX4_rankOf 66 = .ok (.invokestatic 13, 3) := by decide +kernel
theorem dX4_rankOf_69 : decode cX4_rankOf 69 = .ok (.iload_n 2, 1) := by decide +kernel
theorem dX4_rankOf_70 : decode cX4_rankOf 70 = .ok (.if_icmp .ne 8, 3) := by decide +kernel
theorem dX4_rankOf_73 : decode cX4_rankOf 73 = .ok (.iload 4, 2) := by decide +kernel
theorem dX4_rankOf_75 : decode cX4_rankOf 75 = .ok (.goto 4, 3) := by decide +kernel
theorem dX4_rankOf_78 : decode cX4_rankOf 78 = .ok (.iconst (-1), 1) := by decide +kernel
theorem dX4_rankOf_79 : decode cX4_rankOf 79 = .ok (.ireturn, 1) := by decide +kernel
theorem dX4_through_0 : decode cX4_through 0 = .ok (.iload_n 2, 1) := by decide +kernel
theorem dX4_through_1 : decode cX4_through 1 = .ok (.istore_n 3, 1) := by decide +kernel
theorem dX4_through_2 : decode cX4_through 2 = .ok (.iconst 0, 1) := by decide +kernel
theorem dX4_through_3 : decode cX4_through 3 = .ok (.istore 4, 2) := by decide +kernel
theorem dX4_through_5 : decode cX4_through 5 = .ok (.iload 4, 2) := by decide +kernel
theorem dX4_through_7 : decode cX4_through 7 = .ok (.aload_n 1, 1) := by decide +kernel
theorem dX4_through_8 : decode cX4_through 8 = .ok (.getfield 150, 3) := by decide +kernel
theorem dX4_through_11 : decode cX4_through 11 = .ok (.if_icmp .ge 24, 3) := by decide +kernel
theorem dX4_through_14 : decode cX4_through 14 = .ok (.aload_n 0, 1) := by decide +kernel
theorem dX4_through_15 : decode cX4_through 15 = .ok (.getfield 42, 3) := by decide +kernel
theorem dX4_through_18 : decode cX4_through 18 = .ok (.aload_n 1, 1) := by decide +kernel
theorem dX4_through_19 : decode cX4_through 19 = .ok (.iload 4, 2) := by decide +kernel
theorem dX4_through_21 : decode cX4_through 21 = .ok (.invokevirtual 155, 3) := by decide +kernel
theorem dX4_through_24 : decode cX4_through 24 = .ok (.iload_n 3, 1) := by decide +kernel
theorem dX4_through_25 : decode cX4_through 25 = .ok (.invokestatic 109, 3) := by decide +kernel
theorem dX4_through_28 : decode cX4_through 28 = .ok (.istore_n 3, 1) := by decide +kernel
theorem dX4_through_29 : decode cX4_through 29 = .ok (.iinc 4 1, 3) := by decide +kernel
theorem dX4_through_32 : decode cX4_through 32 = .ok (.goto (-27), 3) := by decide +kernel
theorem dX4_through_35 : decode cX4_through 35 = .ok (.iload_n 3, 1) := by decide +kernel
theorem dX4_through_36 : decode cX4_through 36 = .ok (.ireturn, 1) := by decide +kernel
theorem dX4_valueOf_0 : decode cX4_valueOf 0 = .ok (.aload_n 0, 1) := by decide +kernel
theorem dX4_valueOf_1 : decode cX4_valueOf 1 = .ok (.getfield 45, 3) := by decide +kernel
theorem dX4_valueOf_4 : decode cX4_valueOf 4 = .ok (.iload_n 1, 1) := by decide +kernel
theorem dX4_valueOf_5 : decode cX4_valueOf 5 = .ok (.iconst 4, 1) := by decide +kernel
theorem dX4_valueOf_6 : decode cX4_valueOf 6 = .ok (.imul, 1) := by decide +kernel
theorem dX4_valueOf_7 : decode cX4_valueOf 7 = .ok (.iload_n 2, 1) := by decide +kernel
theorem dX4_valueOf_8 : decode cX4_valueOf 8 = .ok (.iadd, 1) := by decide +kernel
theorem dX4_valueOf_9 : decode cX4_valueOf 9 = .ok (.iload_n 3, 1) := by decide +kernel
theorem dX4_valueOf_10 : decode cX4_valueOf 10 = .ok (.invokestatic 109, 3) := by decide +kernel
theorem dX4_valueOf_13 : decode cX4_valueOf 13 = .ok (.ireturn, 1) := by decide +kernel
theorem dX4_countOf_0 : decode cX4_countOf 0 = .ok (.aload_n 0, 1) := by decide +kernel
theorem dX4_countOf_1 : decode cX4_countOf 1 = .ok (.getfield 48, 3) := by decide +kernel
theorem dX4_countOf_4 : decode cX4_countOf 4 = .ok (.iload_n 1, 1) := by decide +kernel
theorem dX4_countOf_5 : decode cX4_countOf 5 = .ok (.iconst 4, 1) := by decide +kernel
theorem dX4_countOf_6 : decode cX4_countOf 6 = .ok (.imul, 1) := by decide +kernel
theorem dX4_countOf_7 : decode cX4_countOf 7 = .ok (.iload_n 2, 1) := by decide +kernel
theorem dX4_countOf_8 : decode cX4_countOf 8 = .ok (.iadd, 1) := by decide +kernel
theorem dX4_countOf_9 : decode cX4_countOf 9 = .ok (.iload_n 3, 1) := by decide +kernel
theorem dX4_countOf_10 : decode cX4_countOf 10 = .ok (.invokestatic 109, 3) := by decide +kernel
theorem dX4_countOf_13 : decode cX4_countOf 13 = .ok (.ireturn, 1) := by decide +kernel
theorem dX4_isInOrderBehind_0 : decode cX4_isInOrderBehind 0 = .ok (.iload_n 1, 1) := by decide +kernel
theorem dX4_isInOrderBehind_1 : decode cX4_isInOrderBehind 1 = .ok (.istore_n 3, 1) := by decide +kernel
theorem dX4_isInOrderBehind_2 : decode cX4_isInOrderBehind 2 = .ok (.iconst 0, 1) := by decide +kernel
theorem dX4_isInOrderBehind_3 : decode cX4_isInOrderBehind 3 = .ok (.istore 4, 2) := by decide +kernel
theorem dX4_isInOrderBehind_5 : decode cX4_isInOrderBehind 5 = .ok (.iload 4, 2) := by decide +kernel
theorem dX4_isInOrderBehind_7 : decode cX4_isInOrderBehind 7 = .ok (.iload_n 2, 1) := by decide +kernel
theorem dX4_isInOrderBehind_8 : decode cX4_isInOrderBehind 8 = .ok (.if_icmp .ge 24, 3) := by decide +kernel
theorem dX4_isInOrderBehind_11 : decode cX4_isInOrderBehind 11 = .ok (.iload_n 3, 1) := by decide +kernel
theorem dX4_isInOrderBehind_12 : decode cX4_isInOrderBehind 12 = .ok (.ifCond .eq 20, 3) := by decide +kernel
theorem dX4_isInOrderBehind_15 : decode cX4_isInOrderBehind 15 = .ok (.aload_n 0, 1) := by decide +kernel
theorem dX4_isInOrderBehind_16 : decode cX4_isInOrderBehind 16 = .ok (.getfield 42, 3) := by decide +kernel
theorem dX4_isInOrderBehind_19 : decode cX4_isInOrderBehind 19 = .ok (.bipush 10, 2) := by decide +kernel
theorem dX4_isInOrderBehind_21 : decode cX4_isInOrderBehind 21 = .ok (.iload_n 3, 1) := by decide +kernel
theorem dX4_isInOrderBehind_22 : decode cX4_isInOrderBehind 22 = .ok (.invokestatic 109, 3) := by decide +kernel
theorem dX4_isInOrderBehind_25 : decode cX4_isInOrderBehind 25 = .ok (.istore_n 3, 1) := by decide +kernel
theorem dX4_isInOrderBehind_26 : decode cX4_isInOrderBehind 26 = .ok (.iinc 4 1, 3) := by decide +kernel
theorem dX4_isInOrderBehind_29 : decode cX4_isInOrderBehind 29 = .ok (.goto (-24), 3) := by decide +kernel
theorem dX4_isInOrderBehind_32 : decode cX4_isInOrderBehind 32 = .ok (.iload_n 3, 1) := by decide +kernel
theorem dX4_isInOrderBehind_33 : decode cX4_isInOrderBehind 33 = .ok (.ifCond .ne 7, 3) := by decide +kernel
theorem dX4_isInOrderBehind_36 : decode cX4_isInOrderBehind 36 = .ok (.iconst 1, 1) := by decide +kernel
theorem dX4_isInOrderBehind_37 : decode cX4_isInOrderBehind 37 = .ok (.goto 4, 3) := by decide +kernel
theorem dX4_isInOrderBehind_40 : decode cX4_isInOrderBehind 40 = .ok (.iconst 0, 1) := by decide +kernel
theorem dX4_isInOrderBehind_41 : decode cX4_isInOrderBehind 41 = .ok (.ireturn, 1) := by decide +kernel
theorem dX0_init_0 : decode cX0_init 0 = .ok (.aload_n 0, 1) := by decide +kernel
theorem dX0_init_1 : decode cX0_init 1 = .ok (.invokespecial 3, 3) := by decide +kernel
theorem dX0_init_4 : decode cX0_init 4 = .ok (.aload_n 0, 1) := by decide +kernel
theorem dX0_init_5 : decode cX0_init 5 = .ok (.bipush 6, 2) := by decide +kernel
theorem dX0_init_7 : decode cX0_init 7 = .ok (.newarray .int, 2) := by decide +kernel
theorem dX0_init_9 : decode cX0_init 9 = .ok (.putfield 9, 3) := by decide +kernel
theorem dX0_init_12 : decode cX0_init 12 = .ok (.aload_n 0, 1) := by decide +kernel
theorem dX0_init_13 : decode cX0_init 13 = .ok (.getfield 9, 3) := by decide +kernel
theorem dX0_init_16 : decode cX0_init 16 = .ok (.arraylength, 1) := by decide +kernel
theorem dX0_init_17 : decode cX0_init 17 = .ok (.ifCond .le 10, 3) := by decide +kernel
theorem dX0_init_20 : decode cX0_init 20 = .ok (.aload_n 0, 1) := by decide +kernel
theorem dX0_init_21 : decode cX0_init 21 = .ok (.getfield 9, 3) := by decide +kernel
theorem dX0_init_24 : decode cX0_init 24 = .ok (.iconst 0, 1) := by decide +kernel
theorem dX0_init_25 : decode cX0_init 25 = .ok (.iload_n 1, 1) := by decide +kernel
theorem dX0_init_26 : decode cX0_init 26 = .ok (.iastore, 1) := by decide +kernel
theorem dX0_init_27 : decode cX0_init 27 = .ok (.aload_n 0, 1) := by decide +kernel
theorem dX0_init_28 : decode cX0_init 28 = .ok (.iconst 1, 1) := by decide +kernel
theorem dX0_init_29 : decode cX0_init 29 = .ok (.putfield 15, 3) := by decide +kernel
theorem dX0_init_32 : decode cX0_init 32 = .ok (.aload_n 0, 1) := by decide +kernel
theorem dX0_init_33 : decode cX0_init 33 = .ok (.getstatic 19, 3) := by decide +kernel
theorem dX0_init_36 : decode cX0_init 36 = .ok (.iload_n 1, 1) := by decide +kernel
theorem dX0_init_37 : decode cX0_init 37 = .ok (.invokestatic 22, 3) := by decide +kernel
theorem dX0_init_40 : decode cX0_init 40 = .ok (.putfield 28, 3) := by decide +kernel
theorem dX0_init_43 : decode cX0_init 43 = .ok (.aload_n 0, 1) := by decide +kernel
theorem dX0_init_44 : decode cX0_init 44 = .ok (.getstatic 31, 3) := by decide +kernel
theorem dX0_init_47 : decode cX0_init 47 = .ok (.iload_n 1, 1) := by decide +kernel
theorem dX0_init_48 : decode cX0_init 48 = .ok (.invokestatic 22, 3) := by decide +kernel
theorem dX0_init_51 : decode cX0_init 51 = .ok (.putfield 34, 3) := by decide +kernel
theorem dX0_init_54 : decode cX0_init 54 = .ok (.return_, 1) := by decide +kernel
theorem dX0_append_0 : decode cX0_append 0 = .ok (.aload_n 0, 1) := by decide +kernel
theorem dX0_append_1 : decode cX0_append 1 = .ok (.getfield 9, 3) := by decide +kernel
theorem dX0_append_4 : decode cX0_append 4 = .ok (.aload_n 0, 1) := by decide +kernel
theorem dX0_append_5 : decode cX0_append 5 = .ok (.getfield 15, 3) := by decide +kernel
theorem dX0_append_8 : decode cX0_append 8 = .ok (.iload_n 1, 1) := by decide +kernel
theorem dX0_append_9 : decode cX0_append 9 = .ok (.invokestatic 37, 3) := by decide +kernel
theorem dX0_append_12 : decode cX0_append 12 = .ok (.aload_n 0, 1) := by decide +kernel
theorem dX0_append_13 : decode cX0_append 13 = .ok (.dup, 1) := by decide +kernel
theorem dX0_append_14 : decode cX0_append 14 = .ok (.getfield 15, 3) := by decide +kernel
theorem dX0_append_17 : decode cX0_append 17 = .ok (.iconst 1, 1) := by decide +kernel
theorem dX0_append_18 : decode cX0_append 18 = .ok (.iadd, 1) := by decide +kernel
theorem dX0_append_19 : decode cX0_append 19 = .ok (.putfield 15, 3) := by decide +kernel
theorem dX0_append_22 : decode cX0_append 22 = .ok (.aload_n 0, 1) := by decide +kernel
theorem dX0_append_23 : decode cX0_append 23 = .ok (.getstatic 31, 3) := by decide +kernel
theorem dX0_append_26 : decode cX0_append 26 = .ok (.iload_n 1, 1) := by decide +kernel
theorem dX0_append_27 : decode cX0_append 27 = .ok (.invokestatic 22, 3) := by decide +kernel
theorem dX0_append_30 : decode cX0_append 30 = .ok (.putfield 34, 3) := by decide +kernel
theorem dX0_append_33 : decode cX0_append 33 = .ok (.aload_n 0, 1) := by decide +kernel
theorem dX0_append_34 : decode cX0_append 34 = .ok (.iconst 0, 1) := by decide +kernel
theorem dX0_append_35 : decode cX0_append 35 = .ok (.putfield 41, 3) := by decide +kernel
theorem dX0_append_38 : decode cX0_append 38 = .ok (.return_, 1) := by decide +kernel
theorem dX0_stepAt_0 : decode cX0_stepAt 0 = .ok (.iload_n 1, 1) := by decide +kernel
theorem dX0_stepAt_1 : decode cX0_stepAt 1 = .ok (.ifCond .lt 21, 3) := by decide +kernel
theorem dX0_stepAt_4 : decode cX0_stepAt 4 = .ok (.iload_n 1, 1) := by decide +kernel
theorem dX0_stepAt_5 : decode cX0_stepAt 5 = .ok (.aload_n 0, 1) := by decide +kernel
theorem dX0_stepAt_6 : decode cX0_stepAt 6 = .ok (.getfield 9, 3) := by decide +kernel
theorem dX0_stepAt_9 : decode cX0_stepAt 9 = .ok (.arraylength, 1) := by decide +kernel
theorem dX0_stepAt_10 : decode cX0_stepAt 10 = .ok (.if_icmp .ge 12, 3) := by decide +kernel
theorem dX0_stepAt_13 : decode cX0_stepAt 13 = .ok (.aload_n 0, 1) := by decide +kernel
theorem dX0_stepAt_14 : decode cX0_stepAt 14 = .ok (.getfield 9, 3) := by decide +kernel
theorem dX0_stepAt_17 : decode cX0_stepAt 17 = .ok (.iload_n 1, 1) := by decide +kernel
theorem dX0_stepAt_18 : decode cX0_stepAt 18 = .ok (.iaload, 1) := by decide +kernel
theorem dX0_stepAt_19 : decode cX0_stepAt 19 = .ok (.goto 4, 3) := by decide +kernel
theorem dX0_stepAt_22 : decode cX0_stepAt 22 = .ok (.iconst 0, 1) := by decide +kernel
theorem dX0_stepAt_23 : decode cX0_stepAt 23 = .ok (.ireturn, 1) := by decide +kernel
theorem dX0_isMove_0 : decode cX0_isMove 0 = .ok (.aload_n 0, 1) := by decide +kernel
theorem dX0_isMove_1 : decode cX0_isMove 1 = .ok (.getfield 28, 3) := by decide +kernel
theorem dX0_isMove_4 : decode cX0_isMove 4 = .ok (.aload_n 0, 1) := by decide +kernel
theorem dX0_isMove_5 : decode cX0_isMove 5 = .ok (.getfield 34, 3) := by decide +kernel
theorem dX0_isMove_8 : decode cX0_isMove 8 = .ok (.if_icmp .ne 7, 3) := by decide +kernel
theorem dX0_isMove_11 : decode cX0_isMove 11 = .ok (.iconst 1, 1) := by decide +kernel
theorem dX0_isMove_12 : decode cX0_isMove 12 = .ok (.goto 4, 3) := by decide +kernel
theorem dX0_isMove_15 : decode cX0_isMove 15 = .ok (.iconst 0, 1) := by decide +kernel
theorem dX0_isMove_16 : decode cX0_isMove 16 = .ok (.ireturn, 1) := by decide +kernel
theorem dX6_init_0 : decode cX6_init 0 = .ok (.aload_n 0, 1) := by decide +kernel
theorem dX6_init_1 : decode cX6_init 1 = .ok (.invokespecial 3, 3) := by decide +kernel
theorem dX6_init_4 : decode cX6_init 4 = .ok (.getstatic 9, 3) := by decide +kernel
theorem dX6_init_7 : decode cX6_init 7 = .ok (.bipush 6, 2) := by decide +kernel
theorem dX6_init_9 : decode cX6_init 9 = .ok (.invokestatic 13, 3) := by decide +kernel
theorem dX6_init_12 : decode cX6_init 12 = .ok (.iconst 0, 1) := by decide +kernel
theorem dX6_init_13 : decode cX6_init 13 = .ok (.invokestatic 19, 3) := by decide +kernel
theorem dX6_init_16 : decode cX6_init 16 = .ok (.istore_n 1, 1) := by decide +kernel
theorem dX6_init_17 : decode cX6_init 17 = .ok (.aload_n 0, 1) := by decide +kernel
theorem dX6_init_18 : decode cX6_init 18 = .ok (.iload_n 1, 1) := by decide +kernel
theorem dX6_init_19 : decode cX6_init 19 = .ok (.newarray .int, 2) := by decide +kernel
theorem dX6_init_21 : decode cX6_init 21 = .ok (.putfield 25, 3) := by decide +kernel
theorem dX6_init_24 : decode cX6_init 24 = .ok (.aload_n 0, 1) := by decide +kernel
theorem dX6_init_25 : decode cX6_init 25 = .ok (.iload_n 1, 1) := by decide +kernel
theorem dX6_init_26 : decode cX6_init 26 = .ok (.newarray .boolean, 2) := by decide +kernel
theorem dX6_init_28 : decode cX6_init 28 = .ok (.putfield 30, 3) := by decide +kernel
theorem dX6_init_31 : decode cX6_init 31 = .ok (.return_, 1) := by decide +kernel
theorem dX6_take_0 : decode cX6_take 0 = .ok (.aload_n 1, 1) := by decide +kernel
theorem dX6_take_1 : decode cX6_take 1 = .ok (.getfield 34, 3) := by decide +kernel
theorem dX6_take_4 : decode cX6_take 4 = .ok (.aload_n 2, 1) := by decide +kernel
theorem dX6_take_5 : decode cX6_take 5 = .ok (.getfield 40, 3) := by decide +kernel
theorem dX6_take_8 : decode cX6_take 8 = .ok (.if_icmp .ne 4, 3) := by decide +kernel
theorem dX6_take_11 : decode cX6_take 11 = .ok (.return_, 1) := by decide +kernel
theorem dX6_take_12 : decode cX6_take 12 = .ok (.aload_n 1, 1) := by decide +kernel
theorem dX6_take_13 : decode cX6_take 13 = .ok (.aload_n 2, 1) := by decide +kernel
theorem dX6_take_14 : decode cX6_take 14 = .ok (.getfield 40, 3) := by decide +kernel
theorem dX6_take_17 : decode cX6_take 17 = .ok (.putfield 34, 3) := by decide +kernel
theorem dX6_take_20 : decode cX6_take 20 = .ok (.aload_n 2, 1) := by decide +kernel
theorem dX6_take_21 : decode cX6_take 21 = .ok (.aload_n 1, 1) := by decide +kernel
theorem dX6_take_22 : decode cX6_take 22 = .ok (.getfield 45, 3) := by decide +kernel
theorem dX6_take_25 : decode cX6_take 25 = .ok (.invokevirtual 48, 3) := by decide +kernel
theorem dX6_take_28 : decode cX6_take 28 = .ok (.istore_n 3, 1) := by decide +kernel
theorem dX6_take_29 : decode cX6_take 29 = .ok (.iconst 0, 1) := by decide +kernel
theorem dX6_take_30 : decode cX6_take 30 = .ok (.istore 4, 2) := by decide +kernel
theorem dX6_take_32 : decode cX6_take 32 = .ok (.iload 4, 2) := by decide +kernel
theorem dX6_take_34 : decode cX6_take 34 = .ok (.iload_n 3, 1) := by decide +kernel
theorem dX6_take_35 : decode cX6_take 35 = .ok (.if_icmp .ge 25, 3) := by decide +kernel
theorem dX6_take_38 : decode cX6_take 38 = .ok (.aload_n 0, 1) := by decide +kernel
theorem dX6_take_39 : decode cX6_take 39 = .ok (.getfield 25, 3) := by decide +kernel
theorem dX6_take_42 : decode cX6_take 42 = .ok (.iload 4, 2) := by decide +kernel
theorem dX6_take_44 : decode cX6_take 44 = .ok (.aload_n 2, 1) := by decide +kernel
theorem dX6_take_45 : decode cX6_take 45 = .ok (.aload_n 1, 1) := by decide +kernel
theorem dX6_take_46 : decode cX6_take 46 = .ok (.iload 4, 2) := by decide +kernel
theorem dX6_take_48 : decode cX6_take 48 = .ok (.invokevirtual 52, 3) := by decide +kernel
theorem dX6_take_51 : decode cX6_take 51 = .ok (.invokestatic 56, 3) := by decide +kernel
theorem dX6_take_54 : decode cX6_take 54 = .ok (.iinc 4 1, 3) := by decide +kernel
theorem dX6_take_57 : decode cX6_take 57 = .ok (.goto (-25), 3) := by decide +kernel
theorem dX6_take_60 : decode cX6_take 60 = .ok (.aload_n 1, 1) := by decide +kernel
theorem dX6_take_61 : decode cX6_take 61 = .ok (.aload_n 0, 1) := by decide +kernel
theorem dX6_take_62 : decode cX6_take 62 = .ok (.iload_n 3, 1) := by decide +kernel
theorem dX6_take_63 : decode cX6_take 63 = .ok (.invokevirtual 60, 3) := by decide +kernel
theorem dX6_take_66 : decode cX6_take 66 = .ok (.putfield 63, 3) := by decide +kernel
theorem dX6_take_69 : decode cX6_take 69 = .ok (.aload_n 1, 1) := by decide +kernel
theorem dX6_take_70 : decode cX6_take 70 = .ok (.aload_n 1, 1) := by decide +kernel
theorem dX6_take_71 : decode cX6_take 71 = .ok (.invokevirtual 66, 3) := by decide +kernel
theorem dX6_take_74 : decode cX6_take 74 = .ok (.ifCond .eq 11, 3) := by decide +kernel
theorem dX6_take_77 : decode cX6_take 77 = .ok (.aload_n 0, 1) := by decide +kernel
theorem dX6_take_78 : decode cX6_take 78 = .ok (.iload_n 3, 1) := by decide +kernel
theorem dX6_take_79 : decode cX6_take 79 = .ok (.invokevirtual 70, 3) := by decide +kernel
theorem dX6_take_82 : decode cX6_take 82 = .ok (.goto 4, 3) := by decide +kernel
theorem dX6_take_85 : decode cX6_take 85 = .ok (.iconst (-1), 1) := by decide +kernel
theorem dX6_take_86 : decode cX6_take 86 = .ok (.putfield 73, 3) := by decide +kernel
theorem dX6_take_89 : decode cX6_take 89 = .ok (.aload_n 1, 1) := by decide +kernel
theorem dX6_take_90 : decode cX6_take 90 = .ok (.iconst (-1), 1) := by decide +kernel
theorem dX6_take_91 : decode cX6_take 91 = .ok (.putfield 76, 3) := by decide +kernel
theorem dX6_take_94 : decode cX6_take 94 = .ok (.aload_n 1, 1) := by decide +kernel
theorem dX6_take_95 : decode cX6_take 95 = .ok (.ldc2_w 79, 3) := by decide +kernel
theorem dX6_take_98 : decode cX6_take 98 = .ok (.putfield 81, 3) := by decide +kernel
theorem dX6_take_101 : decode cX6_take 101 = .ok (.aload_n 1, 1) := by decide +kernel
theorem dX6_take_102 : decode cX6_take 102 = .ok (.invokevirtual 66, 3) := by decide +kernel
theorem dX6_take_105 : decode cX6_take 105 = .ok (.ifCond .eq 17, 3) := by decide +kernel
theorem dX6_take_108 : decode cX6_take 108 = .ok (.aload_n 1, 1) := by decide +kernel
theorem dX6_take_109 : decode cX6_take 109 = .ok (.getfield 63, 3) := by decide +kernel
theorem dX6_take_112 : decode cX6_take 112 = .ok (.iload_n 3, 1) := by decide +kernel
theorem dX6_take_113 : decode cX6_take 113 = .ok (.if_icmp .ne 9, 3) := by decide +kernel
theorem dX6_take_116 : decode cX6_take 116 = .ok (.aload_n 0, 1) := by decide +kernel
theorem dX6_take_117 : decode cX6_take 117 = .ok (.aload_n 1, 1) := by decide +kernel
theorem dX6_take_118 : decode cX6_take 118 = .ok (.iload_n 3, 1) := by decide +kernel
theorem dX6_take_119 : decode cX6_take 119 = .ok (.invokevirtual 85, 3) := by decide +kernel
theorem dX6_take_122 : decode cX6_take 122 = .ok (.return_, 1) := by decide +kernel
theorem dX6_countDistinct_0 : decode cX6_countDistinct 0 = .ok (.aload_n 0, 1) := by decide +kernel
theorem dX6_countDistinct_1 : decode cX6_countDistinct 1 = .ok (.invokevirtual 89, 3) := by decide +kernel
theorem dX6_countDistinct_4 : decode cX6_countDistinct 4 = .ok (.iconst 0, 1) := by decide +kernel
theorem dX6_countDistinct_5 : decode cX6_countDistinct 5 = .ok (.istore_n 2, 1) := by decide +kernel
theorem dX6_countDistinct_6 : decode cX6_countDistinct 6 = .ok (.iconst 0, 1) := by decide +kernel
theorem dX6_countDistinct_7 : decode cX6_countDistinct 7 = .ok (.istore_n 3, 1) := by decide +kernel
theorem dX6_countDistinct_8 : decode cX6_countDistinct 8 = .ok (.iload_n 3, 1) := by decide +kernel
theorem dX6_countDistinct_9 : decode cX6_countDistinct 9 = .ok (.iload_n 1, 1) := by decide +kernel
theorem dX6_countDistinct_10 : decode cX6_countDistinct 10 = .ok (.if_icmp .ge 27, 3) := by decide +kernel
theorem dX6_countDistinct_13 : decode cX6_countDistinct 13 = .ok (.aload_n 0, 1) := by decide +kernel
theorem dX6_countDistinct_14 : decode cX6_countDistinct 14 = .ok (.aload_n 0, 1) := by decide +kernel
theorem dX6_countDistinct_15 : decode cX6_countDistinct 15 = .ok (.getfield 25, 3) := by decide +kernel
theorem dX6_countDistinct_18 : decode cX6_countDistinct 18 = .ok (.iload_n 3, 1) := by decide +kernel
theorem dX6_countDistinct_19 : decode cX6_countDistinct 19 = .ok (.invokestatic 13, 3) := by decide +kernel
theorem dX6_countDistinct_22 : decode cX6_countDistinct 22 = .ok (.invokevirtual 92, 3) := by decide +kernel
theorem dX6_countDistinct_25 : decode cX6_countDistinct 25 = .ok (.ifCond .eq 6, 3) := by decide +kernel
theorem dX6_countDistinct_28 : decode cX6_countDistinct 28 = .ok (.iinc 2 1, 3) := by decide +kernel
theorem dX6_countDistinct_31 : decode cX6_countDistinct 31 = .ok (.iinc 3 1, 3) := by decide +kernel
theorem dX6_countDistinct_34 : decode cX6_countDistinct 34 = .ok (.goto (-26), 3) := by decide +kernel
theorem dX6_countDistinct_37 : decode cX6_countDistinct 37 = .ok (.iload_n 2, 1) := by decide +kernel
theorem dX6_countDistinct_38 : decode cX6_countDistinct 38 = .ok (.ireturn, 1) := by decide +kernel
theorem dX6_countUnmoved_0 : decode cX6_countUnmoved 0 = .ok (.iconst 0, 1) := by decide +kernel
theorem dX6_countUnmoved_1 : decode cX6_countUnmoved 1 = .ok (.istore_n 2, 1) := by decide +kernel
theorem dX6_countUnmoved_2 : decode cX6_countUnmoved 2 = .ok (.iconst 0, 1) := by decide +kernel
theorem dX6_countUnmoved_3 : decode cX6_countUnmoved 3 = .ok (.istore_n 3, 1) := by decide +kernel
theorem dX6_countUnmoved_4 : decode cX6_countUnmoved 4 = .ok (.iload_n 3, 1) := by decide +kernel
theorem dX6_countUnmoved_5 : decode cX6_countUnmoved 5 = .ok (.iload_n 1, 1) := by decide +kernel
theorem dX6_countUnmoved_6 : decode cX6_countUnmoved 6 = .ok (.if_icmp .ge 24, 3) := by decide +kernel
theorem dX6_countUnmoved_9 : decode cX6_countUnmoved 9 = .ok (.aload_n 0, 1) := by decide +kernel
theorem dX6_countUnmoved_10 : decode cX6_countUnmoved 10 = .ok (.getfield 25, 3) := by decide +kernel
theorem dX6_countUnmoved_13 : decode cX6_countUnmoved 13 = .ok (.iload_n 3, 1) := by decide +kernel
theorem dX6_countUnmoved_14 : decode cX6_countUnmoved 14 = .ok (.invokestatic 13, 3) := by decide +kernel
theorem dX6_countUnmoved_17 : decode cX6_countUnmoved 17 = .ok (.iload_n 3, 1) := by decide +kernel
theorem dX6_countUnmoved_18 : decode cX6_countUnmoved 18 = .ok (.if_icmp .ne 6, 3) := by decide +kernel
theorem dX6_countUnmoved_21 : decode cX6_countUnmoved 21 = .ok (.iinc 2 1, 3) := by decide +kernel
theorem dX6_countUnmoved_24 : decode cX6_countUnmoved 24 = .ok (.iinc 3 1, 3) := by decide +kernel
theorem dX6_countUnmoved_27 : decode cX6_countUnmoved 27 = .ok (.goto (-23), 3) := by decide +kernel
theorem dX6_countUnmoved_30 : decode cX6_countUnmoved 30 = .ok (.iload_n 2, 1) := by decide +kernel
theorem dX6_countUnmoved_31 : decode cX6_countUnmoved 31 = .ok (.ireturn, 1) := by decide +kernel
theorem dX6_followRounds_0 : decode cX6_followRounds 0 = .ok (.aload_n 0, 1) := by decide +kernel
theorem dX6_followRounds_1 : decode cX6_followRounds 1 = .ok (.invokevirtual 89, 3) := by decide +kernel
theorem dX6_followRounds_4 : decode cX6_followRounds 4 = .ok (.aload_n 1, 1) := by decide +kernel
theorem dX6_followRounds_5 : decode cX6_followRounds 5 = .ok (.iconst 0, 1) := by decide +kernel
theorem dX6_followRounds_6 : decode cX6_followRounds 6 = .ok (.putfield 76, 3) := by decide +kernel
theorem dX6_followRounds_9 : decode cX6_followRounds 9 = .ok (.aload_n 1, 1) := by decide +kernel
theorem dX6_followRounds_10 : decode cX6_followRounds 10 = .ok (.lconst 1, 1) := by decide +kernel
theorem dX6_followRounds_11 : decode cX6_followRounds 11 = .ok (.putfield 81, 3) := by decide +kernel
theorem dX6_followRounds_14 : decode cX6_followRounds 14 = .ok (.iconst 0, 1) := by decide +kernel
theorem dX6_followRounds_15 : decode cX6_followRounds 15 = .ok (.istore_n 3, 1) := by decide +kernel
theorem dX6_followRounds_16 : decode cX6_followRounds 16 = .ok (.iload_n 3, 1) := by decide +kernel
theorem dX6_followRounds_17 : decode cX6_followRounds 17 = .ok (.iload_n 2, 1) := by decide +kernel
theorem dX6_followRounds_18 : decode cX6_followRounds 18 = .ok (.if_icmp .ge 45, 3) := by decide +kernel
theorem dX6_followRounds_21 : decode cX6_followRounds 21 = .ok (.aload_n 0, 1) := by decide +kernel
theorem dX6_followRounds_22 : decode cX6_followRounds 22 = .ok (.iload_n 3, 1) := by decide +kernel
theorem dX6_followRounds_23 : decode cX6_followRounds 23 = .ok (.iload_n 2, 1) := by decide +kernel
theorem dX6_followRounds_24 : decode cX6_followRounds 24 = .ok (.invokevirtual 96, 3) := by decide +kernel
theorem dX6_followRounds_27 : decode cX6_followRounds 27 = .ok (.istore 4, 2) := by decide +kernel
theorem dX6_followRounds_29 : decode cX6_followRounds 29 = .ok (.iload 4, 2) := by decide +kernel
theorem dX6_followRounds_31 : decode cX6_followRounds 31 = .ok (.ifCond .le 26, 3) := by decide +kernel
theorem dX6_followRounds_34 : decode cX6_followRounds 34 = .ok (.aload_n 1, 1) := by decide +kernel
theorem dX6_followRounds_35 : decode cX6_followRounds 35 = .ok (.dup, 1) := by decide +kernel
theorem dX6_followRounds_36 : decode cX6_followRounds 36 = .ok (.getfield 76, 3) := by decide +kernel
theorem dX6_followRounds_39 : decode cX6_followRounds 39 = .ok (.iconst 1, 1) := by decide +kernel
theorem dX6_followRounds_40 : decode cX6_followRounds 40 = .ok (.iadd, 1) := by decide +kernel
theorem dX6_followRounds_41 : decode cX6_followRounds 41 = .ok (.putfield 76, 3) := by decide +kernel
theorem dX6_followRounds_44 : decode cX6_followRounds 44 = .ok (.aload_n 1, 1) := by decide +kernel
theorem dX6_followRounds_45 : decode cX6_followRounds 45 = .ok (.aload_n 1, 1) := by decide +kernel
theorem dX6_followRounds_46 : decode cX6_followRounds 46 = .ok (.getfield 81, 3) := by decide +kernel
theorem dX6_followRounds_49 : decode cX6_followRounds 49 = .ok (.iload 4, 2) := by decide +kernel
theorem dX6_followRounds_51 : decode cX6_followRounds 51 = .ok (.invokestatic 99, 3) := by decide +kernel
theorem dX6_followRounds_54 : decode cX6_followRounds 54 = .ok (.putfield 81, 3) := by decide +kernel
theorem dX6_followRounds_57 : decode cX6_followRounds 57 = .ok (.iinc 3 1, 3) := by decide +kernel
theorem dX6_followRounds_60 : decode cX6_followRounds 60 = .ok (.goto (-44), 3) := by decide +kernel
theorem dX6_followRounds_63 : decode cX6_followRounds 63 = .ok (.return_, 1) := by decide +kernel
theorem dX6_roundLength_0 : decode cX6_roundLength 0 = .ok (.iconst 0, 1) := by decide +kernel
theorem dX6_roundLength_1 : decode cX6_roundLength 1 = .ok (.istore_n 3, 1) := by decide +kernel
theorem dX6_roundLength_2 : decode cX6_roundLength 2 = .ok (.iload_n 1, 1) := by decide +kernel
theorem dX6_roundLength_3 : decode cX6_roundLength 3 = .ok (.istore 4, 2) := by decide +kernel
theorem dX6_roundLength_5 : decode cX6_roundLength 5 = .ok (.iload_n 3, 1) := by decide +kernel
theorem dX6_roundLength_6 : decode cX6_roundLength 6 = .ok (.iload_n 2, 1) := by decide +kernel
theorem dX6_roundLength_7 : decode cX6_roundLength 7 = .ok (.if_icmp .ge 29, 3) := by decide +kernel
theorem dX6_roundLength_10 : decode cX6_roundLength 10 = .ok (.aload_n 0, 1) := by decide +kernel
theorem dX6_roundLength_11 : decode cX6_roundLength 11 = .ok (.iload 4, 2) := by decide +kernel
theorem dX6_roundLength_13 : decode cX6_roundLength 13 = .ok (.invokevirtual 92, 3) := by decide +kernel
theorem dX6_roundLength_16 : decode cX6_roundLength 16 = .ok (.ifCond .eq 20, 3) := by decide +kernel
theorem dX6_roundLength_19 : decode cX6_roundLength 19 = .ok (.iinc 3 1, 3) := by decide +kernel
theorem dX6_roundLength_22 : decode cX6_roundLength 22 = .ok (.aload_n 0, 1) := by decide +kernel
theorem dX6_roundLength_23 : decode cX6_roundLength 23 = .ok (.getfield 25, 3) := by decide +kernel
theorem dX6_roundLength_26 : decode cX6_roundLength 26 = .ok (.iload 4, 2) := by decide +kernel
theorem dX6_roundLength_28 : decode cX6_roundLength 28 = .ok (.invokestatic 13, 3) := by decide +kernel
theorem dX6_roundLength_31 : decode cX6_roundLength 31 = .ok (.istore 4, 2) := by decide +kernel
theorem dX6_roundLength_33 : decode cX6_roundLength 33 = .ok (.goto (-28), 3) := by decide +kernel
theorem dX6_roundLength_36 : decode cX6_roundLength 36 = .ok (.iload_n 3, 1) := by decide +kernel
theorem dX6_roundLength_37 : decode cX6_roundLength 37 = .ok (.ireturn, 1) := by decide +kernel
theorem dX6_commonMultiple_0 : decode cX6_commonMultiple 0 = .ok (.iconst 1, 1) := by decide +kernel
theorem dX6_commonMultiple_1 : decode cX6_commonMultiple 1 = .ok (.istore_n 3, 1) := by decide +kernel
theorem dX6_commonMultiple_2 : decode cX6_commonMultiple 2 = .ok (.iload_n 3, 1) := by decide +kernel
theorem dX6_commonMultiple_3 : decode cX6_commonMultiple 3 = .ok (.iload_n 2, 1) := by decide +kernel
theorem dX6_commonMultiple_4 : decode cX6_commonMultiple 4 = .ok (.if_icmp .gt 26, 3) := by decide +kernel
theorem dX6_commonMultiple_7 : decode cX6_commonMultiple 7 = .ok (.lload_n 0, 1) := by decide +kernel
theorem dX6_commonMultiple_8 : decode cX6_commonMultiple 8 = .ok (.iload_n 3, 1) := by decide +kernel
theorem dX6_commonMultiple_9 : decode cX6_commonMultiple 9 = .ok (.i2l, 1) := by decide +kernel
theorem dX6_commonMultiple_10 : decode cX6_commonMultiple 10 = .ok (.lmul, 1) := by decide +kernel
theorem dX6_commonMultiple_11 : decode cX6_commonMultiple 11 = .ok (.iload_n 2, 1) := by decide +kernel
theorem dX6_commonMultiple_12 : decode cX6_commonMultiple 12 = .ok (.i2l, 1) := by decide +kernel
theorem dX6_commonMultiple_13 : decode cX6_commonMultiple 13 = .ok (.lrem, 1) := by decide +kernel
theorem dX6_commonMultiple_14 : decode cX6_commonMultiple 14 = .ok (.lconst 0, 1) := by decide +kernel
theorem dX6_commonMultiple_15 : decode cX6_commonMultiple 15 = .ok (.lcmp, 1) := by decide +kernel
theorem dX6_commonMultiple_16 : decode cX6_commonMultiple 16 = .ok (.ifCond .ne 8, 3) := by decide +kernel
theorem dX6_commonMultiple_19 : decode cX6_commonMultiple 19 = .ok (.lload_n 0, 1) := by decide +kernel
theorem dX6_commonMultiple_20 : decode cX6_commonMultiple 20 = .ok (.iload_n 3, 1) := by decide +kernel
theorem dX6_commonMultiple_21 : decode cX6_commonMultiple 21 = .ok (.i2l, 1) := by decide +kernel
theorem dX6_commonMultiple_22 : decode cX6_commonMultiple 22 = .ok (.lmul, 1) := by decide +kernel
theorem dX6_commonMultiple_23 : decode cX6_commonMultiple 23 = .ok (.lreturn, 1) := by decide +kernel
theorem dX6_commonMultiple_24 : decode cX6_commonMultiple 24 = .ok (.iinc 3 1, 3) := by decide +kernel
theorem dX6_commonMultiple_27 : decode cX6_commonMultiple 27 = .ok (.goto (-25), 3) := by decide +kernel
theorem dX6_commonMultiple_30 : decode cX6_commonMultiple 30 = .ok (.lload_n 0, 1) := by decide +kernel
theorem dX6_commonMultiple_31 : decode cX6_commonMultiple 31 = .ok (.lreturn, 1) := by decide +kernel
theorem dX6_forget_0 : decode cX6_forget 0 = .ok (.iconst 0, 1) := by decide +kernel
theorem dX6_forget_1 : decode cX6_forget 1 = .ok (.istore_n 1, 1) := by decide +kernel
theorem dX6_forget_2 : decode cX6_forget 2 = .ok (.iload_n 1, 1) := by decide +kernel
theorem dX6_forget_3 : decode cX6_forget 3 = .ok (.aload_n 0, 1) := by decide +kernel
theorem dX6_forget_4 : decode cX6_forget 4 = .ok (.getfield 30, 3) := by decide +kernel
theorem dX6_forget_7 : decode cX6_forget 7 = .ok (.arraylength, 1) := by decide +kernel
theorem dX6_forget_8 : decode cX6_forget 8 = .ok (.if_icmp .ge 16, 3) := by decide +kernel
theorem dX6_forget_11 : decode cX6_forget 11 = .ok (.aload_n 0, 1) := by decide +kernel
theorem dX6_forget_12 : decode cX6_forget 12 = .ok (.getfield 30, 3) := by decide +kernel
theorem dX6_forget_15 : decode cX6_forget 15 = .ok (.iload_n 1, 1) := by decide +kernel
theorem dX6_forget_16 : decode cX6_forget 16 = .ok (.iconst 0, 1) := by decide +kernel
theorem dX6_forget_17 : decode cX6_forget 17 = .ok (.bastore, 1) := by decide +kernel
theorem dX6_forget_18 : decode cX6_forget 18 = .ok (.iinc 1 1, 3) := by decide +kernel
theorem dX6_forget_21 : decode cX6_forget 21 = .ok (.goto (-19), 3) := by decide +kernel
theorem dX6_forget_24 : decode cX6_forget 24 = .ok (.return_, 1) := by decide +kernel
theorem dX6_meet_0 : decode cX6_meet 0 = .ok (.iload_n 1, 1) := by decide +kernel
theorem dX6_meet_1 : decode cX6_meet 1 = .ok (.ifCond .lt 21, 3) := by decide +kernel
theorem dX6_meet_4 : decode cX6_meet 4 = .ok (.iload_n 1, 1) := by decide +kernel
theorem dX6_meet_5 : decode cX6_meet 5 = .ok (.aload_n 0, 1) := by decide +kernel
theorem dX6_meet_6 : decode cX6_meet 6 = .ok (.getfield 30, 3) := by decide +kernel
theorem dX6_meet_9 : decode cX6_meet 9 = .ok (.arraylength, 1) := by decide +kernel
theorem dX6_meet_10 : decode cX6_meet 10 = .ok (.if_icmp .ge 12, 3) := by decide +kernel
theorem dX6_meet_13 : decode cX6_meet 13 = .ok (.aload_n 0, 1) := by decide +kernel
theorem dX6_meet_14 : decode cX6_meet 14 = .ok (.getfield 30, 3) := by decide +kernel
theorem dX6_meet_17 : decode cX6_meet 17 = .ok (.iload_n 1, 1) := by decide +kernel
theorem dX6_meet_18 : decode cX6_meet 18 = .ok (.baload, 1) := by decide +kernel
theorem dX6_meet_19 : decode cX6_meet 19 = .ok (.ifCond .eq 5, 3) := by decide +kernel
theorem dX6_meet_22 : decode cX6_meet 22 = .ok (.iconst 0, 1) := by decide +kernel
theorem dX6_meet_23 : decode cX6_meet 23 = .ok (.ireturn, 1) := by decide +kernel
theorem dX6_meet_24 : decode cX6_meet 24 = .ok (.aload_n 0, 1) := by decide +kernel
theorem dX6_meet_25 : decode cX6_meet 25 = .ok (.getfield 30, 3) := by decide +kernel
theorem dX6_meet_28 : decode cX6_meet 28 = .ok (.iload_n 1, 1) := by decide +kernel
theorem dX6_meet_29 : decode cX6_meet 29 = .ok (.iconst 1, 1) := by decide +kernel
theorem dX6_meet_30 : decode cX6_meet 30 = .ok (.bastore, 1) := by decide +kernel
theorem dX6_meet_31 : decode cX6_meet 31 = .ok (.iconst 1, 1) := by decide +kernel
theorem dX6_meet_32 : decode cX6_meet 32 = .ok (.ireturn, 1) := by decide +kernel
theorem dX8_init_0 : decode cX8_init 0 = .ok (.aload_n 0, 1) := by decide +kernel
theorem dX8_init_1 : decode cX8_init 1 = .ok (.invokespecial 1, 3) := by decide +kernel
theorem dX8_init_4 : decode cX8_init 4 = .ok (.aload_n 0, 1) := by decide +kernel
theorem dX8_init_5 : decode cX8_init 5 = .ok (.iload_n 1, 1) := by decide +kernel
theorem dX8_init_6 : decode cX8_init 6 = .ok (.putfield 7, 3) := by decide +kernel
theorem dX8_init_9 : decode cX8_init 9 = .ok (.aload_n 0, 1) := by decide +kernel
theorem dX8_init_10 : decode cX8_init 10 = .ok (.iload_n 2, 1) := by decide +kernel
theorem dX8_init_11 : decode cX8_init 11 = .ok (.putfield 13, 3) := by decide +kernel
theorem dX8_init_14 : decode cX8_init 14 = .ok (.aload_n 0, 1) := by decide +kernel
theorem dX8_init_15 : decode cX8_init 15 = .ok (.iload_n 1, 1) := by decide +kernel
theorem dX8_init_16 : decode cX8_init 16 = .ok (.putfield 16, 3) := by decide +kernel
theorem dX8_init_19 : decode cX8_init 19 = .ok (.aload_n 0, 1) := by decide +kernel
theorem dX8_init_20 : decode cX8_init 20 = .ok (.iload_n 2, 1) := by decide +kernel
theorem dX8_init_21 : decode cX8_init 21 = .ok (.putfield 19, 3) := by decide +kernel
theorem dX8_init_24 : decode cX8_init 24 = .ok (.return_, 1) := by decide +kernel
theorem dX8_go_0 : decode cX8_go 0 = .ok (.aload_n 0, 1) := by decide +kernel
theorem dX8_go_1 : decode cX8_go 1 = .ok (.iload_n 1, 1) := by decide +kernel
theorem dX8_go_2 : decode cX8_go 2 = .ok (.putfield 16, 3) := by decide +kernel
theorem dX8_go_5 : decode cX8_go 5 = .ok (.aload_n 0, 1) := by decide +kernel
theorem dX8_go_6 : decode cX8_go 6 = .ok (.iload_n 2, 1) := by decide +kernel
theorem dX8_go_7 : decode cX8_go 7 = .ok (.putfield 19, 3) := by decide +kernel
theorem dX8_go_10 : decode cX8_go 10 = .ok (.aload_n 0, 1) := by decide +kernel
theorem dX8_go_11 : decode cX8_go 11 = .ok (.dup, 1) := by decide +kernel
theorem dX8_go_12 : decode cX8_go 12 = .ok (.getfield 22, 3) := by decide +kernel
theorem dX8_go_15 : decode cX8_go 15 = .ok (.iconst 1, 1) := by decide +kernel
theorem dX8_go_16 : decode cX8_go 16 = .ok (.iadd, 1) := by decide +kernel
theorem dX8_go_17 : decode cX8_go 17 = .ok (.putfield 22, 3) := by decide +kernel
theorem dX8_go_20 : decode cX8_go 20 = .ok (.aload_n 0, 1) := by decide +kernel
theorem dX8_go_21 : decode cX8_go 21 = .ok (.getfield 16, 3) := by decide +kernel
theorem dX8_go_24 : decode cX8_go 24 = .ok (.aload_n 0, 1) := by decide +kernel
theorem dX8_go_25 : decode cX8_go 25 = .ok (.getfield 7, 3) := by decide +kernel
theorem dX8_go_28 : decode cX8_go 28 = .ok (.if_icmp .ne 24, 3) := by decide +kernel
theorem dX8_go_31 : decode cX8_go 31 = .ok (.aload_n 0, 1) := by decide +kernel
theorem dX8_go_32 : decode cX8_go 32 = .ok (.getfield 19, 3) := by decide +kernel
theorem dX8_go_35 : decode cX8_go 35 = .ok (.aload_n 0, 1) := by decide +kernel
theorem dX8_go_36 : decode cX8_go 36 = .ok (.getfield 13, 3) := by decide +kernel
theorem dX8_go_39 : decode cX8_go 39 = .ok (.if_icmp .ne 13, 3) := by decide +kernel
theorem dX8_go_42 : decode cX8_go 42 = .ok (.aload_n 0, 1) := by decide +kernel
theorem dX8_go_43 : decode cX8_go 43 = .ok (.dup, 1) := by decide +kernel
theorem dX8_go_44 : decode cX8_go 44 = .ok (.getfield 25, 3) := by decide +kernel
theorem dX8_go_47 : decode cX8_go 47 = .ok (.iconst 1, 1) := by decide +kernel
theorem dX8_go_48 : decode cX8_go 48 = .ok (.iadd, 1) := by decide +kernel
theorem dX8_go_49 : decode cX8_go 49 = .ok (.putfield 25, 3) := by decide +kernel
theorem dX8_go_52 : decode cX8_go 52 = .ok (.return_, 1) := by decide +kernel
theorem dX1_init_0 : decode cX1_init 0 = .ok (.aload_n 0, 1) := by decide +kernel
theorem dX1_init_1 : decode cX1_init 1 = .ok (.invokespecial 1, 3) := by decide +kernel
theorem dX1_init_4 : decode cX1_init 4 = .ok (.aload_n 0, 1) := by decide +kernel
theorem dX1_init_5 : decode cX1_init 5 = .ok (.iload_n 1, 1) := by decide +kernel
theorem dX1_init_6 : decode cX1_init 6 = .ok (.putfield 7, 3) := by decide +kernel
theorem dX1_init_9 : decode cX1_init 9 = .ok (.aload_n 0, 1) := by decide +kernel
theorem dX1_init_10 : decode cX1_init 10 = .ok (.iload_n 2, 1) := by decide +kernel
theorem dX1_init_11 : decode cX1_init 11 = .ok (.putfield 13, 3) := by decide +kernel
theorem dX1_init_14 : decode cX1_init 14 = .ok (.aload_n 0, 1) := by decide +kernel
theorem dX1_init_15 : decode cX1_init 15 = .ok (.iload_n 3, 1) := by decide +kernel
theorem dX1_init_16 : decode cX1_init 16 = .ok (.putfield 16, 3) := by decide +kernel
theorem dX1_init_19 : decode cX1_init 19 = .ok (.return_, 1) := by decide +kernel
theorem dX1_note_0 : decode cX1_note 0 = .ok (.aload_n 0, 1) := by decide +kernel
theorem dX1_note_1 : decode cX1_note 1 = .ok (.dup, 1) := by decide +kernel
theorem dX1_note_2 : decode cX1_note 2 = .ok (.getfield 19, 3) := by decide +kernel
theorem dX1_note_5 : decode cX1_note 5 = .ok (.iconst 1, 1) := by decide +kernel
theorem dX1_note_6 : decode cX1_note 6 = .ok (.iload_n 1, 1) := by decide +kernel
theorem dX1_note_7 : decode cX1_note 7 = .ok (.ishl, 1) := by decide +kernel
theorem dX1_note_8 : decode cX1_note 8 = .ok (.ior, 1) := by decide +kernel
theorem dX1_note_9 : decode cX1_note 9 = .ok (.putfield 19, 3) := by decide +kernel
theorem dX1_note_12 : decode cX1_note 12 = .ok (.iload_n 2, 1) := by decide +kernel
theorem dX1_note_13 : decode cX1_note 13 = .ok (.ifCond .ne 15, 3) := by decide +kernel
theorem dX1_note_16 : decode cX1_note 16 = .ok (.aload_n 0, 1) := by decide +kernel
theorem dX1_note_17 : decode cX1_note 17 = .ok (.dup, 1) := by decide +kernel
theorem dX1_note_18 : decode cX1_note 18 = .ok (.getfield 22, 3) := by decide +kernel
theorem dX1_note_21 : decode cX1_note 21 = .ok (.iconst 1, 1) := by decide +kernel
theorem dX1_note_22 : decode cX1_note 22 = .ok (.iload_n 1, 1) := by decide +kernel
theorem dX1_note_23 : decode cX1_note 23 = .ok (.ishl, 1) := by decide +kernel
theorem dX1_note_24 : decode cX1_note 24 = .ok (.ior, 1) := by decide +kernel
theorem dX1_note_25 : decode cX1_note 25 = .ok (.putfield 22, 3) := by decide +kernel
theorem dX1_note_28 : decode cX1_note 28 = .ok (.return_, 1) := by decide +kernel
theorem dX9_init_0 : decode cX9_init 0 = .ok (.aload_n 0, 1) := by decide +kernel
theorem dX9_init_1 : decode cX9_init 1 = .ok (.invokespecial 1, 3) := by decide +kernel
theorem dX9_init_4 : decode cX9_init 4 = .ok (.aload_n 0, 1) := by decide +kernel
theorem dX9_init_5 : decode cX9_init 5 = .ok (.bipush 7, 2) := by decide +kernel
theorem dX9_init_7 : decode cX9_init 7 = .ok (.anewarray 9, 3) := by decide +kernel
theorem dX9_init_10 : decode cX9_init 10 = .ok (.putfield 11, 3) := by decide +kernel
theorem dX9_init_13 : decode cX9_init 13 = .ok (.aload_n 0, 1) := by decide +kernel
theorem dX9_init_14 : decode cX9_init 14 = .ok (.new 15, 3) := by decide +kernel
theorem dX9_init_17 : decode cX9_init 17 = .ok (.dup, 1) := by decide +kernel
theorem dX9_init_18 : decode cX9_init 18 = .ok (.invokespecial 17, 3) := by decide +kernel
theorem dX9_init_21 : decode cX9_init 21 = .ok (.putfield 18, 3) := by decide +kernel
theorem dX9_init_24 : decode cX9_init 24 = .ok (.aload_n 0, 1) := by decide +kernel
theorem dX9_init_25 : decode cX9_init 25 = .ok (.bipush 8, 2) := by decide +kernel
theorem dX9_init_27 : decode cX9_init 27 = .ok (.anewarray 22, 3) := by decide +kernel
theorem dX9_init_30 : decode cX9_init 30 = .ok (.putfield 24, 3) := by decide +kernel
theorem dX9_init_33 : decode cX9_init 33 = .ok (.aload_n 0, 1) := by decide +kernel
theorem dX9_init_34 : decode cX9_init 34 = .ok (.iconst 4, 1) := by decide +kernel
theorem dX9_init_35 : decode cX9_init 35 = .ok (.anewarray 28, 3) := by decide +kernel
theorem dX9_init_38 : decode cX9_init 38 = .ok (.putfield 30, 3) := by decide +kernel
theorem dX9_init_41 : decode cX9_init 41 = .ok (.aload_n 0, 1) := by decide +kernel
theorem dX9_init_42 : decode cX9_init 42 = .ok (.bipush 8, 2) := by decide +kernel
theorem dX9_init_44 : decode cX9_init 44 = .ok (.anewarray 34, 3) := by decide +kernel
theorem dX9_init_47 : decode cX9_init 47 = .ok (.putfield 36, 3) := by decide +kernel
theorem dX9_init_50 : decode cX9_init 50 = .ok (.aload_n 0, 1) := by decide +kernel
theorem dX9_init_51 : decode cX9_init 51 = .ok (.iconst 3, 1) := by decide +kernel
theorem dX9_init_52 : decode cX9_init 52 = .ok (.invokestatic 40, 3) := by decide +kernel
theorem dX9_init_55 : decode cX9_init 55 = .ok (.putfield 44, 3) := by decide +kernel
theorem dX9_init_58 : decode cX9_init 58 = .ok (.iconst 3, 1) := by decide +kernel
theorem dX9_init_59 : decode cX9_init 59 = .ok (.aload_n 0, 1) := by decide +kernel
theorem dX9_init_60 : decode cX9_init 60 = .ok (.getfield 11, 3) := by decide +kernel
theorem dX9_init_63 : decode cX9_init 63 = .ok (.arraylength, 1) := by decide +kernel
theorem dX9_init_64 : decode cX9_init 64 = .ok (.if_icmp .ge 13, 3) := by decide +kernel
theorem dX9_init_67 : decode cX9_init 67 = .ok (.aload_n 0, 1) := by decide +kernel
theorem dX9_init_68 : decode cX9_init 68 = .ok (.getfield 11, 3) := by decide +kernel
theorem dX9_init_71 : decode cX9_init 71 = .ok (.iconst 3, 1) := by decide +kernel
theorem dX9_init_72 : decode cX9_init 72 = .ok (.aload_n 0, 1) := by decide +kernel
theorem dX9_init_73 : decode cX9_init 73 = .ok (.getfield 44, 3) := by decide +kernel
theorem dX9_init_76 : decode cX9_init 76 = .ok (.aastore, 1) := by decide +kernel
theorem dX9_init_77 : decode cX9_init 77 = .ok (.return_, 1) := by decide +kernel
theorem dX9_size_0 : decode cX9_size 0 = .ok (.iload_n 1, 1) := by decide +kernel
theorem dX9_size_1 : decode cX9_size 1 = .ok (.iconst 1, 1) := by decide +kernel
theorem dX9_size_2 : decode cX9_size 2 = .ok (.if_icmp .lt 18, 3) := by decide +kernel
theorem dX9_size_5 : decode cX9_size 5 = .ok (.iload_n 1, 1) := by decide +kernel
theorem dX9_size_6 : decode cX9_size 6 = .ok (.bipush 6, 2) := by decide +kernel
theorem dX9_size_8 : decode cX9_size 8 = .ok (.if_icmp .gt 12, 3) := by decide +kernel
theorem dX9_size_11 : decode cX9_size 11 = .ok (.iload_n 1, 1) := by decide +kernel
theorem dX9_size_12 : decode cX9_size 12 = .ok (.aload_n 0, 1) := by decide +kernel
theorem dX9_size_13 : decode cX9_size 13 = .ok (.getfield 11, 3) := by decide +kernel
theorem dX9_size_16 : decode cX9_size 16 = .ok (.arraylength, 1) := by decide +kernel
theorem dX9_size_17 : decode cX9_size 17 = .ok (.if_icmp .lt 13, 3) := by decide +kernel
theorem dX9_size_20 : decode cX9_size 20 = .ok (.new 48, 3) := by decide +kernel
theorem dX9_size_23 : decode cX9_size 23 = .ok (.dup, 1) := by decide +kernel
theorem dX9_size_24 : decode cX9_size 24 = .ok (.ldc 50, 2) := by decide +kernel
theorem dX9_size_26 : decode cX9_size 26 = .ok (.invokespecial 52, 3) := by decide +kernel
theorem dX9_size_29 : decode cX9_size 29 = .ok (.athrow, 1) := by decide +kernel
theorem dX9_size_30 : decode cX9_size 30 = .ok (.aload_n 0, 1) := by decide +kernel
theorem dX9_size_31 : decode cX9_size 31 = .ok (.getfield 11, 3) := by decide +kernel
theorem dX9_size_34 : decode cX9_size 34 = .ok (.iload_n 1, 1) := by decide +kernel
theorem dX9_size_35 : decode cX9_size 35 = .ok (.aaload, 1) := by decide +kernel
theorem dX9_size_36 : decode cX9_size 36 = .ok (.astore_n 2, 1) := by decide +kernel
theorem dX9_size_37 : decode cX9_size 37 = .ok (.aload_n 2, 1) := by decide +kernel
theorem dX9_size_38 : decode cX9_size 38 = .ok (.ifnonnull 15, 3) := by decide +kernel
theorem dX9_size_41 : decode cX9_size 41 = .ok (.iload_n 1, 1) := by decide +kernel
theorem dX9_size_42 : decode cX9_size 42 = .ok (.invokestatic 40, 3) := by decide +kernel
theorem dX9_size_45 : decode cX9_size 45 = .ok (.astore_n 2, 1) := by decide +kernel
theorem dX9_size_46 : decode cX9_size 46 = .ok (.aload_n 0, 1) := by decide +kernel
theorem dX9_size_47 : decode cX9_size 47 = .ok (.getfield 11, 3) := by decide +kernel
theorem dX9_size_50 : decode cX9_size 50 = .ok (.iload_n 1, 1) := by decide +kernel
theorem dX9_size_51 : decode cX9_size 51 = .ok (.aload_n 2, 1) := by decide +kernel
theorem dX9_size_52 : decode cX9_size 52 = .ok (.aastore, 1) := by decide +kernel
theorem dX9_size_53 : decode cX9_size 53 = .ok (.aload_n 0, 1) := by decide +kernel
theorem dX9_size_54 : decode cX9_size 54 = .ok (.aload_n 2, 1) := by decide +kernel
theorem dX9_size_55 : decode cX9_size 55 = .ok (.putfield 44, 3) := by decide +kernel
theorem dX9_size_58 : decode cX9_size 58 = .ok (.aload_n 0, 1) := by decide +kernel
theorem dX9_size_59 : decode cX9_size 59 = .ok (.getfield 55, 3) := by decide +kernel
theorem dX9_size_62 : decode cX9_size 62 = .ok (.istore_n 3, 1) := by decide +kernel
theorem dX9_size_63 : decode cX9_size 63 = .ok (.aload_n 0, 1) := by decide +kernel
theorem dX9_size_64 : decode cX9_size 64 = .ok (.iconst 0, 1) := by decide +kernel
theorem dX9_size_65 : decode cX9_size 65 = .ok (.putfield 55, 3) := by decide +kernel
theorem dX9_size_68 : decode cX9_size 68 = .ok (.iload_n 3, 1) := by decide +kernel
theorem dX9_size_69 : decode cX9_size 69 = .ok (.ireturn, 1) := by decide +kernel
theorem dX9_map_0 : decode cX9_map 0 = .ok (.iload_n 1, 1) := by decide +kernel
theorem dX9_map_1 : decode cX9_map 1 = .ok (.invokestatic 59, 3) := by decide +kernel
theorem dX9_map_4 : decode cX9_map 4 = .ok (.aload_n 0, 1) := by decide +kernel
theorem dX9_map_5 : decode cX9_map 5 = .ok (.getfield 63, 3) := by decide +kernel
theorem dX9_map_8 : decode cX9_map 8 = .ok (.bipush 8, 2) := by decide +kernel
theorem dX9_map_10 : decode cX9_map 10 = .ok (.if_icmp .ge 15, 3) := by decide +kernel
theorem dX9_map_13 : decode cX9_map 13 = .ok (.aload_n 0, 1) := by decide +kernel
theorem dX9_map_14 : decode cX9_map 14 = .ok (.getfield 63, 3) := by decide +kernel
theorem dX9_map_17 : decode cX9_map 17 = .ok (.aload_n 0, 1) := by decide +kernel
theorem dX9_map_18 : decode cX9_map 18 = .ok (.getfield 24, 3) := by decide +kernel
theorem dX9_map_21 : decode cX9_map 21 = .ok (.arraylength, 1) := by decide +kernel
theorem dX9_map_22 : decode cX9_map 22 = .ok (.if_icmp .lt 13, 3) := by decide +kernel
theorem dX9_map_25 : decode cX9_map 25 = .ok (.new 66, 3) := by decide +kernel
theorem dX9_map_28 : decode cX9_map 28 = .ok (.dup, 1) := by decide +kernel
theorem dX9_map_29 : decode cX9_map 29 = .ok (.ldc 68, 2) := by decide +kernel
theorem dX9_map_31 : decode cX9_map 31 = .ok (.invokespecial 70, 3) := by decide +kernel
theorem dX9_map_34 : decode cX9_map 34 = .ok (.athrow, 1) := by decide +kernel
theorem dX9_map_35 : decode cX9_map 35 = .ok (.aload_n 0, 1) := by decide +kernel
theorem dX9_map_36 : decode cX9_map 36 = .ok (.getfield 24, 3) := by decide +kernel
theorem dX9_map_39 : decode cX9_map 39 = .ok (.aload_n 0, 1) := by decide +kernel
theorem dX9_map_40 : decode cX9_map 40 = .ok (.getfield 63, 3) := by decide +kernel
theorem dX9_map_43 : decode cX9_map 43 = .ok (.new 22, 3) := by decide +kernel
theorem dX9_map_46 : decode cX9_map 46 = .ok (.dup, 1) := by decide +kernel
theorem dX9_map_47 : decode cX9_map 47 = .ok (.iload_n 1, 1) := by decide +kernel
theorem dX9_map_48 : decode cX9_map 48 = .ok (.invokespecial 71, 3) := by decide +kernel
theorem dX9_map_51 : decode cX9_map 51 = .ok (.aastore, 1) := by decide +kernel
theorem dX9_map_52 : decode cX9_map 52 = .ok (.aload_n 0, 1) := by decide +kernel
theorem dX9_map_53 : decode cX9_map 53 = .ok (.dup, 1) := by decide +kernel
theorem dX9_map_54 : decode cX9_map 54 = .ok (.getfield 63, 3) := by decide +kernel
theorem dX9_map_57 : decode cX9_map 57 = .ok (.iconst 1, 1) := by decide +kernel
theorem dX9_map_58 : decode cX9_map 58 = .ok (.iadd, 1) := by decide +kernel
theorem dX9_map_59 : decode cX9_map 59 = .ok (.putfield 63, 3) := by decide +kernel
theorem dX9_map_62 : decode cX9_map 62 = .ok (.aload_n 0, 1) := by decide +kernel
theorem dX9_map_63 : decode cX9_map 63 = .ok (.getfield 63, 3) := by decide +kernel
theorem dX9_map_66 : decode cX9_map 66 = .ok (.iconst 1, 1) := by decide +kernel
theorem dX9_map_67 : decode cX9_map 67 = .ok (.isub, 1) := by decide +kernel
theorem dX9_map_68 : decode cX9_map 68 = .ok (.ireturn, 1) := by decide +kernel
theorem dX9_then_0 : decode cX9_then 0 = .ok (.aload_n 0, 1) := by decide +kernel
theorem dX9_then_1 : decode cX9_then 1 = .ok (.iload_n 1, 1) := by decide +kernel
theorem dX9_then_2 : decode cX9_then 2 = .ok (.invokevirtual 73, 3) := by decide +kernel
theorem dX9_then_5 : decode cX9_then 5 = .ok (.astore_n 3, 1) := by decide +kernel
theorem dX9_then_6 : decode cX9_then 6 = .ok (.iload_n 2, 1) := by decide +kernel
theorem dX9_then_7 : decode cX9_then 7 = .ok (.invokestatic 59, 3) := by decide +kernel
theorem dX9_then_10 : decode cX9_then 10 = .ok (.aload_n 3, 1) := by decide +kernel
theorem dX9_then_11 : decode cX9_then 11 = .ok (.getfield 77, 3) := by decide +kernel
theorem dX9_then_14 : decode cX9_then 14 = .ok (.bipush 6, 2) := by decide +kernel
theorem dX9_then_16 : decode cX9_then 16 = .ok (.if_icmp .lt 13, 3) := by decide +kernel
theorem dX9_then_19 : decode cX9_then 19 = .ok (.new 66, 3) := by decide +kernel
theorem dX9_then_22 : decode cX9_then 22 = .ok (.dup, 1) := by decide +kernel
theorem dX9_then_23 : decode cX9_then 23 = .ok (.ldc 80, 2) := by decide +kernel
theorem dX9_then_25 : decode cX9_then 25 = .ok (.invokespecial 70, 3) := by decide +kernel
theorem dX9_then_28 : decode cX9_then 28 = .ok (.athrow, 1) := by decide +kernel
theorem dX9_then_29 : decode cX9_then 29 = .ok (.aload_n 3, 1) := by decide +kernel
theorem dX9_then_30 : decode cX9_then 30 = .ok (.getfield 82, 3) := by decide +kernel
theorem dX9_then_33 : decode cX9_then 33 = .ok (.ifCond .eq 13, 3) := by decide +kernel
theorem dX9_then_36 : decode cX9_then 36 = .ok (.new 66, 3) := by decide +kernel
theorem dX9_then_39 : decode cX9_then 39 = .ok (.dup, 1) := by decide +kernel
theorem dX9_then_40 : decode cX9_then 40 = .ok (.ldc 86, 2) := by decide +kernel
theorem dX9_then_42 : decode cX9_then 42 = .ok (.invokespecial 70, 3) := by decide +kernel
theorem dX9_then_45 : decode cX9_then 45 = .ok (.athrow, 1) := by decide +kernel
theorem dX9_then_46 : decode cX9_then 46 = .ok (.getstatic 88, 3) := by decide +kernel
theorem dX9_then_49 : decode cX9_then 49 = .ok (.iload_n 2, 1) := by decide +kernel
theorem dX9_then_50 : decode cX9_then 50 = .ok (.invokestatic 92, 3) := by decide +kernel
theorem dX9_then_53 : decode cX9_then 53 = .ok (.aload_n 3, 1) := by decide +kernel
theorem dX9_then_54 : decode cX9_then 54 = .ok (.getfield 98, 3) := by decide +kernel
theorem dX9_then_57 : decode cX9_then 57 = .ok (.if_icmp .eq 13, 3) := by decide +kernel
theorem dX9_then_60 : decode cX9_then 60 = .ok (.new 66, 3) := by decide +kernel
theorem dX9_then_63 : decode cX9_then 63 = .ok (.dup, 1) := by decide +kernel
theorem dX9_then_64 : decode cX9_then 64 = .ok (.ldc 101, 2) := by decide +kernel
theorem dX9_then_66 : decode cX9_then 66 = .ok (.invokespecial 70, 3) := by decide +kernel
theorem dX9_then_69 : decode cX9_then 69 = .ok (.athrow, 1) := by decide +kernel
theorem dX9_then_70 : decode cX9_then 70 = .ok (.aload_n 3, 1) := by decide +kernel
theorem dX9_then_71 : decode cX9_then 71 = .ok (.iload_n 2, 1) := by decide +kernel
theorem dX9_then_72 : decode cX9_then 72 = .ok (.invokevirtual 103, 3) := by decide +kernel
theorem dX9_then_75 : decode cX9_then 75 = .ok (.aload_n 3, 1) := by decide +kernel
theorem dX9_then_76 : decode cX9_then 76 = .ok (.getfield 77, 3) := by decide +kernel
theorem dX9_then_79 : decode cX9_then 79 = .ok (.ireturn, 1) := by decide +kernel
theorem dX9_walker_0 : decode cX9_walker 0 = .ok (.iload_n 1, 1) := by decide +kernel
theorem dX9_walker_1 : decode cX9_walker 1 = .ok (.invokestatic 106, 3) := by decide +kernel
theorem dX9_walker_4 : decode cX9_walker 4 = .ok (.aload_n 0, 1) := by decide +kernel
theorem dX9_walker_5 : decode cX9_walker 5 = .ok (.getfield 44, 3) := by decide +kernel
theorem dX9_walker_8 : decode cX9_walker 8 = .ok (.iload_n 1, 1) := by decide +kernel
theorem dX9_walker_9 : decode cX9_walker 9 = .ok (.iload_n 2, 1) := by decide +kernel
theorem dX9_walker_10 : decode cX9_walker 10 = .ok (.invokevirtual 109, 3) := by decide +kernel
theorem dX9_walker_13 : decode cX9_walker 13 = .ok (.istore_n 3, 1) := by decide +kernel
theorem dX9_walker_14 : decode cX9_walker 14 = .ok (.iload_n 3, 1) := by decide +kernel
theorem dX9_walker_15 : decode cX9_walker 15 = .ok (.iconst (-1), 1) := by decide +kernel
theorem dX9_walker_16 : decode cX9_walker 16 = .ok (.if_icmp .ne 13, 3) := by decide +kernel
theorem dX9_walker_19 : decode cX9_walker 19 = .ok (.new 48, 3) := by decide +kernel
theorem dX9_walker_22 : decode cX9_walker 22 = .ok (.dup, 1) := by decide +kernel
theorem dX9_walker_23 : decode cX9_walker 23 = .ok (.ldc 113, 2) := by decide +kernel
theorem dX9_walker_25 : decode cX9_walker 25 = .ok (.invokespecial 52, 3) := by decide +kernel
theorem dX9_walker_28 : decode cX9_walker 28 = .ok (.athrow, 1) := by decide +kernel
theorem dX9_walker_29 : decode cX9_walker 29 = .ok (.aload_n 0, 1) := by decide +kernel
theorem dX9_walker_30 : decode cX9_walker 30 = .ok (.getfield 55, 3) := by decide +kernel
theorem dX9_walker_33 : decode cX9_walker 33 = .ok (.iconst 4, 1) := by decide +kernel
theorem dX9_walker_34 : decode cX9_walker 34 = .ok (.if_icmp .ge 15, 3) := by decide +kernel
theorem dX9_walker_37 : decode cX9_walker 37 = .ok (.aload_n 0, 1) := by decide +kernel
theorem dX9_walker_38 : decode cX9_walker 38 = .ok (.getfield 55, 3) := by decide +kernel
theorem dX9_walker_41 : decode cX9_walker 41 = .ok (.aload_n 0, 1) := by decide +kernel
theorem dX9_walker_42 : decode cX9_walker 42 = .ok (.getfield 30, 3) := by decide +kernel
theorem dX9_walker_45 : decode cX9_walker 45 = .ok (.arraylength, 1) := by decide +kernel
theorem dX9_walker_46 : decode cX9_walker 46 = .ok (.if_icmp .lt 13, 3) := by decide +kernel
theorem dX9_walker_49 : decode cX9_walker 49 = .ok (.new 66, 3) := by decide +kernel
theorem dX9_walker_52 : decode cX9_walker 52 = .ok (.dup, 1) := by decide +kernel
theorem dX9_walker_53 : decode cX9_walker 53 = .ok (.ldc 115, 2) := by decide +kernel
theorem dX9_walker_55 : decode cX9_walker 55 = .ok (.invokespecial 70, 3) := by decide +kernel
theorem dX9_walker_58 : decode cX9_walker 58 = .ok (.athrow, 1) := by decide +kernel
theorem dX9_walker_59 : decode cX9_walker 59 = .ok (.aload_n 0, 1) := by decide +kernel
theorem dX9_walker_60 : decode cX9_walker 60 = .ok (.getfield 30, 3) := by decide +kernel
theorem dX9_walker_63 : decode cX9_walker 63 = .ok (.aload_n 0, 1) := by decide +kernel
theorem dX9_walker_64 : decode cX9_walker 64 = .ok (.getfield 55, 3) := by decide +kernel
theorem dX9_walker_67 : decode cX9_walker 67 = .ok (.new 28, 3) := by decide +kernel
theorem dX9_walker_70 : decode cX9_walker 70 = .ok (.dup, 1) := by decide +kernel
theorem dX9_walker_71 : decode cX9_walker 71 = .ok (.iload_n 1, 1) := by decide +kernel
theorem dX9_walker_72 : decode cX9_walker 72 = .ok (.iload_n 3, 1) := by decide +kernel
theorem dX9_walker_73 : decode cX9_walker 73 = .ok (.invokespecial 117, 3) := by decide +kernel
theorem dX9_walker_76 : decode cX9_walker 76 = .ok (.aastore, 1) := by decide +kernel
theorem dX9_walker_77 : decode cX9_walker 77 = .ok (.aload_n 0, 1) := by decide +kernel
theorem dX9_walker_78 : decode cX9_walker 78 = .ok (.dup, 1) := by decide +kernel
theorem dX9_walker_79 : decode cX9_walker 79 = .ok (.getfield 55, 3) := by decide +kernel
theorem dX9_walker_82 : decode cX9_walker 82 = .ok (.iconst 1, 1) := by decide +kernel
theorem dX9_walker_83 : decode cX9_walker 83 = .ok (.iadd, 1) := by decide +kernel
theorem dX9_walker_84 : decode cX9_walker 84 = .ok (.putfield 55, 3) := by decide +kernel
theorem dX9_walker_87 : decode cX9_walker 87 = .ok (.aload_n 0, 1) := by decide +kernel
theorem dX9_walker_88 : decode cX9_walker 88 = .ok (.getfield 55, 3) := by decide +kernel
theorem dX9_walker_91 : decode cX9_walker 91 = .ok (.iconst 1, 1) := by decide +kernel
theorem dX9_walker_92 : decode cX9_walker 92 = .ok (.isub, 1) := by decide +kernel
theorem dX9_walker_93 : decode cX9_walker 93 = .ok (.ireturn, 1) := by decide +kernel
theorem dX9_claim_0 : decode cX9_claim 0 = .ok (.aload_n 0, 1) := by decide +kernel
theorem dX9_claim_1 : decode cX9_claim 1 = .ok (.iload_n 1, 1) := by decide +kernel
theorem dX9_claim_2 : decode cX9_claim 2 = .ok (.invokevirtual 73, 3) := by decide +kernel
theorem dX9_claim_5 : decode cX9_claim 5 = .ok (.astore 4, 2) := by decide +kernel
theorem dX9_claim_7 : decode cX9_claim 7 = .ok (.iload_n 2, 1) := by decide +kernel
theorem dX9_claim_8 : decode cX9_claim 8 = .ok (.invokestatic 120, 3) := by decide +kernel
theorem dX9_claim_11 : decode cX9_claim 11 = .ok (.iload_n 3, 1) := by decide +kernel
theorem dX9_claim_12 : decode cX9_claim 12 = .ok (.invokestatic 120, 3) := by decide +kernel
theorem dX9_claim_15 : decode cX9_claim 15 = .ok (.aload_n 0, 1) := by decide +kernel
theorem dX9_claim_16 : decode cX9_claim 16 = .ok (.getfield 123, 3) := by decide +kernel
theorem dX9_claim_19 : decode cX9_claim 19 = .ok (.bipush 8, 2) := by decide +kernel
theorem dX9_claim_21 : decode cX9_claim 21 = .ok (.if_icmp .ge 15, 3) := by decide +kernel
theorem dX9_claim_24 : decode cX9_claim 24 = .ok (.aload_n 0, 1) := by decide +kernel
theorem dX9_claim_25 : decode cX9_claim 25 = .ok (.getfield 123, 3) := by decide +kernel
theorem dX9_claim_28 : decode cX9_claim 28 = .ok (.aload_n 0, 1) := by decide +kernel
theorem dX9_claim_29 : decode cX9_claim 29 = .ok (.getfield 36, 3) := by decide +kernel
theorem dX9_claim_32 : decode cX9_claim 32 = .ok (.arraylength, 1) := by decide +kernel
theorem dX9_claim_33 : decode cX9_claim 33 = .ok (.if_icmp .lt 13, 3) := by decide +kernel
theorem dX9_claim_36 : decode cX9_claim 36 = .ok (.new 66, 3) := by decide +kernel
theorem dX9_claim_39 : decode cX9_claim 39 = .ok (.dup, 1) := by decide +kernel
theorem dX9_claim_40 : decode cX9_claim 40 = .ok (.ldc 126, 2) := by decide +kernel
theorem dX9_claim_42 : decode cX9_claim 42 = .ok (.invokespecial 70, 3) := by decide +kernel
theorem dX9_claim_45 : decode cX9_claim 45 = .ok (.athrow, 1) := by decide +kernel
theorem dX9_claim_46 : decode cX9_claim 46 = .ok (.new 34, 3) := by decide +kernel
theorem dX9_claim_49 : decode cX9_claim 49 = .ok (.dup, 1) := by decide +kernel
theorem dX9_claim_50 : decode cX9_claim 50 = .ok (.iload_n 1, 1) := by decide +kernel
theorem dX9_claim_51 : decode cX9_claim 51 = .ok (.iload_n 2, 1) := by decide +kernel
theorem dX9_claim_52 : decode cX9_claim 52 = .ok (.iload_n 3, 1) := by decide +kernel
theorem dX9_claim_53 : decode cX9_claim 53 = .ok (.invokespecial 128, 3) := by decide +kernel
theorem dX9_claim_56 : decode cX9_claim 56 = .ok (.astore 5, 2) := by decide +kernel
theorem dX9_claim_58 : decode cX9_claim 58 = .ok (.aload_n 0, 1) := by decide +kernel
theorem dX9_claim_59 : decode cX9_claim 59 = .ok (.getfield 36, 3) := by decide +kernel
theorem dX9_claim_62 : decode cX9_claim 62 = .ok (.aload_n 0, 1) := by decide +kernel
theorem dX9_claim_63 : decode cX9_claim 63 = .ok (.getfield 123, 3) := by decide +kernel
theorem dX9_claim_66 : decode cX9_claim 66 = .ok (.aload 5, 2) := by decide +kernel
theorem dX9_claim_68 : decode cX9_claim 68 = .ok (.aastore, 1) := by decide +kernel
theorem dX9_claim_69 : decode cX9_claim 69 = .ok (.aload_n 0, 1) := by decide +kernel
theorem dX9_claim_70 : decode cX9_claim 70 = .ok (.dup, 1) := by decide +kernel
theorem dX9_claim_71 : decode cX9_claim 71 = .ok (.getfield 123, 3) := by decide +kernel
theorem dX9_claim_74 : decode cX9_claim 74 = .ok (.iconst 1, 1) := by decide +kernel
theorem dX9_claim_75 : decode cX9_claim 75 = .ok (.iadd, 1) := by decide +kernel
theorem dX9_claim_76 : decode cX9_claim 76 = .ok (.putfield 123, 3) := by decide +kernel
theorem dX9_claim_79 : decode cX9_claim 79 = .ok (.aload 4, 2) := by decide +kernel
theorem dX9_claim_81 : decode cX9_claim 81 = .ok (.iconst 1, 1) := by decide +kernel
theorem dX9_claim_82 : decode cX9_claim 82 = .ok (.putfield 82, 3) := by decide +kernel
theorem dX9_claim_85 : decode cX9_claim 85 = .ok (.aload_n 0, 1) := by decide +kernel
theorem dX9_claim_86 : decode cX9_claim 86 = .ok (.aload 5, 2) := by decide +kernel
theorem dX9_claim_88 : decode cX9_claim 88 = .ok (.aload 4, 2) := by decide +kernel
theorem dX9_claim_90 : decode cX9_claim 90 = .ok (.invokevirtual 131, 3) := by decide +kernel
theorem dX9_claim_93 : decode cX9_claim 93 = .ok (.pop, 1) := by decide +kernel
theorem dX9_claim_94 : decode cX9_claim 94 = .ok (.aload_n 0, 1) := by decide +kernel
theorem dX9_claim_95 : decode cX9_claim 95 = .ok (.getfield 123, 3) := by decide +kernel
theorem dX9_claim_98 : decode cX9_claim 98 = .ok (.iconst 1, 1) := by decide +kernel
theorem dX9_claim_99 : decode cX9_claim 99 = .ok (.isub, 1) := by decide +kernel
theorem dX9_claim_100 : decode cX9_claim 100 = .ok (.ireturn, 1) := by decide +kernel
theorem dX9_send_0 : decode cX9_send 0 = .ok (.aload_n 0, 1) := by decide +kernel
theorem dX9_send_1 : decode cX9_send 1 = .ok (.iload_n 1, 1) := by decide +kernel
theorem dX9_send_2 : decode cX9_send 2 = .ok (.invokevirtual 135, 3) := by decide +kernel
theorem dX9_send_5 : decode cX9_send 5 = .ok (.astore 4, 2) := by decide +kernel
theorem dX9_send_7 : decode cX9_send 7 = .ok (.aload_n 0, 1) := by decide +kernel
theorem dX9_send_8 : decode cX9_send 8 = .ok (.iload_n 2, 1) := by decide +kernel
theorem dX9_send_9 : decode cX9_send 9 = .ok (.invokevirtual 73, 3) := by decide +kernel
theorem dX9_send_12 : decode cX9_send 12 = .ok (.astore 5, 2) := by decide +kernel
theorem dX9_send_14 : decode cX9_send 14 = .ok (.iload_n 3, 1) := by decide +kernel
theorem dX9_send_15 : decode cX9_send 15 = .ok (.iconst 1, 1) := by decide +kernel
theorem dX9_send_16 : decode cX9_send 16 = .ok (.if_icmp .lt 9, 3) := by decide +kernel
theorem dX9_send_19 : decode cX9_send 19 = .ok (.iload_n 3, 1) := by decide +kernel
theorem dX9_send_20 : decode cX9_send 20 = .ok (.bipush 60, 2) := by decide +kernel
theorem dX9_send_22 : decode cX9_send 22 = .ok (.if_icmp .le 13, 3) := by decide +kernel
theorem dX9_send_25 : decode cX9_send 25 = .ok (.new 48, 3) := by decide +kernel
theorem dX9_send_28 : decode cX9_send 28 = .ok (.dup, 1) := by decide +kernel
theorem dX9_send_29 : decode cX9_send 29 = .ok (.ldc 139, 2) := by decide +kernel
theorem dX9_send_31 : decode cX9_send 31 = .ok (.invokespecial 52, 3) := by decide +kernel
theorem dX9_send_34 : decode cX9_send 34 = .ok (.athrow, 1) := by decide +kernel
theorem dX9_send_35 : decode cX9_send 35 = .ok (.aload 5, 2) := by decide +kernel
theorem dX9_send_37 : decode cX9_send 37 = .ok (.getfield 141, 3) := by decide +kernel
theorem dX9_send_40 : decode cX9_send 40 = .ok (.aload 4, 2) := by decide +kernel
theorem dX9_send_42 : decode cX9_send 42 = .ok (.getfield 144, 3) := by decide +kernel
theorem dX9_send_45 : decode cX9_send 45 = .ok (.if_icmp .eq 13, 3) := by decide +kernel
theorem dX9_send_48 : decode cX9_send 48 = .ok (.new 66, 3) := by decide +kernel
theorem dX9_send_51 : decode cX9_send 51 = .ok (.dup, 1) := by decide +kernel
theorem dX9_send_52 : decode cX9_send 52 = .ok (.ldc 147, 2) := by decide +kernel
theorem dX9_send_54 : decode cX9_send 54 = .ok (.invokespecial 70, 3) := by decide +kernel
theorem dX9_send_57 : decode cX9_send 57 = .ok (.athrow, 1) := by decide +kernel
theorem dX9_send_58 : decode cX9_send 58 = .ok (.aload 5, 2) := by decide +kernel
theorem dX9_send_60 : decode cX9_send 60 = .ok (.invokevirtual 149, 3) := by decide +kernel
theorem dX9_send_63 : decode cX9_send 63 = .ok (.ifCond .ne 18, 3) := by decide +kernel
theorem dX9_send_66 : decode cX9_send 66 = .ok (.iload_n 3, 1) := by decide +kernel
theorem dX9_send_67 : decode cX9_send 67 = .ok (.iconst 1, 1) := by decide +kernel
theorem dX9_send_68 : decode cX9_send 68 = .ok (.if_icmp .le 13, 3) := by decide +kernel
theorem dX9_send_71 : decode cX9_send 71 = .ok (.new 66, 3) := by decide +kernel
theorem dX9_send_74 : decode cX9_send 74 = .ok (.dup, 1) := by decide +kernel
theorem dX9_send_75 : decode cX9_send 75 = .ok (.ldc 153, 2) := by decide +kernel
theorem dX9_send_77 : decode cX9_send 77 = .ok (.invokespecial 70, 3) := by decide +kernel
theorem dX9_send_80 : decode cX9_send 80 = .ok (.athrow, 1) := by decide +kernel
theorem dX9_send_81 : decode cX9_send 81 = .ok (.iconst 0, 1) := by decide +kernel
theorem dX9_send_82 : decode cX9_send 82 = .ok (.istore 6, 2) := by decide +kernel
theorem dX9_send_84 : decode cX9_send 84 = .ok (.iload 6, 2) := by decide +kernel
theorem dX9_send_86 : decode cX9_send 86 = .ok (.iload_n 3, 1) := by decide +kernel
theorem dX9_send_87 : decode cX9_send 87 = .ok (.if_icmp .ge 43, 3) := by decide +kernel
theorem dX9_send_90 : decode cX9_send 90 = .ok (.aload 4, 2) := by decide +kernel
theorem dX9_send_92 : decode cX9_send 92 = .ok (.aload 5, 2) := by decide +kernel
theorem dX9_send_94 : decode cX9_send 94 = .ok (.getfield 98, 3) := by decide +kernel
theorem dX9_send_97 : decode cX9_send 97 = .ok (.aload_n 0, 1) := by decide +kernel
theorem dX9_send_98 : decode cX9_send 98 = .ok (.getfield 44, 3) := by decide +kernel
theorem dX9_send_101 : decode cX9_send 101 = .ok (.aload 5, 2) := by decide +kernel
theorem dX9_send_103 : decode cX9_send 103 = .ok (.aload 4, 2) := by decide +kernel
theorem dX9_send_105 : decode cX9_send 105 = .ok (.getfield 155, 3) := by decide +kernel
theorem dX9_send_108 : decode cX9_send 108 = .ok (.invokevirtual 158, 3) := by decide +kernel
theorem dX9_send_111 : decode cX9_send 111 = .ok (.invokevirtual 162, 3) := by decide +kernel
theorem dX9_send_114 : decode cX9_send 114 = .ok (.aload_n 0, 1) := by decide +kernel
theorem dX9_send_115 : decode cX9_send 115 = .ok (.dup, 1) := by decide +kernel
theorem dX9_send_116 : decode cX9_send 116 = .ok (.getfield 165, 3) := by decide +kernel
theorem dX9_send_119 : decode cX9_send 119 = .ok (.iconst 1, 1) := by decide +kernel
theorem dX9_send_120 : decode cX9_send 120 = .ok (.iadd, 1) := by decide +kernel
theorem dX9_send_121 : decode cX9_send 121 = .ok (.putfield 165, 3) := by decide +kernel
theorem dX9_send_124 : decode cX9_send 124 = .ok (.iinc 6 1, 3) := by decide +kernel
theorem dX9_send_127 : decode cX9_send 127 = .ok (.goto (-43), 3) := by decide +kernel
theorem dX9_send_130 : decode cX9_send 130 = .ok (.aload_n 0, 1) := by decide +kernel
theorem dX9_send_131 : decode cX9_send 131 = .ok (.getfield 44, 3) := by decide +kernel
theorem dX9_send_134 : decode cX9_send 134 = .ok (.aload 4, 2) := by decide +kernel
theorem dX9_send_136 : decode cX9_send 136 = .ok (.getfield 144, 3) := by decide +kernel
theorem dX9_send_139 : decode cX9_send 139 = .ok (.aload 4, 2) := by decide +kernel
theorem dX9_send_141 : decode cX9_send 141 = .ok (.getfield 155, 3) := by decide +kernel
theorem dX9_send_144 : decode cX9_send 144 = .ok (.invokevirtual 168, 3) := by decide +kernel
theorem dX9_send_147 : decode cX9_send 147 = .ok (.ireturn, 1) := by decide +kernel
theorem dX9_trial_0 : decode cX9_trial 0 = .ok (.aload_n 0, 1) := by decide +kernel
theorem dX9_trial_1 : decode cX9_trial 1 = .ok (.iload_n 1, 1) := by decide +kernel
theorem dX9_trial_2 : decode cX9_trial 2 = .ok (.invokevirtual 171, 3) := by decide +kernel
theorem dX9_trial_5 : decode cX9_trial 5 = .ok (.astore_n 2, 1) := by decide +kernel
theorem dX9_trial_6 : decode cX9_trial 6 = .ok (.aload_n 0, 1) := by decide +kernel
theorem dX9_trial_7 : decode cX9_trial 7 = .ok (.aload_n 2, 1) := by decide +kernel
theorem dX9_trial_8 : decode cX9_trial 8 = .ok (.aload_n 0, 1) := by decide +kernel
theorem dX9_trial_9 : decode cX9_trial 9 = .ok (.aload_n 2, 1) := by decide +kernel
theorem dX9_trial_10 : decode cX9_trial 10 = .ok (.getfield 175, 3) := by decide +kernel
theorem dX9_trial_13 : decode cX9_trial 13 = .ok (.invokevirtual 73, 3) := by decide +kernel
theorem dX9_trial_16 : decode cX9_trial 16 = .ok (.invokevirtual 131, 3) := by decide +kernel
theorem dX9_trial_19 : decode cX9_trial 19 = .ok (.ireturn, 1) := by decide +kernel
theorem dX9_objects_0 : decode cX9_objects 0 = .ok (.iload_n 1, 1) := by decide +kernel
theorem dX9_objects_1 : decode cX9_objects 1 = .ok (.invokestatic 106, 3) := by decide +kernel
theorem dX9_objects_4 : decode cX9_objects 4 = .ok (.aload_n 0, 1) := by decide +kernel
theorem dX9_objects_5 : decode cX9_objects 5 = .ok (.getfield 44, 3) := by decide +kernel
theorem dX9_objects_8 : decode cX9_objects 8 = .ok (.iload_n 1, 1) := by decide +kernel
theorem dX9_objects_9 : decode cX9_objects 9 = .ok (.invokevirtual 178, 3) := by decide +kernel
theorem dX9_objects_12 : decode cX9_objects 12 = .ok (.ireturn, 1) := by decide +kernel
theorem dX9_unrank_0 : decode cX9_unrank 0 = .ok (.aload_n 0, 1) := by decide +kernel
theorem dX9_unrank_1 : decode cX9_unrank 1 = .ok (.iload_n 1, 1) := by decide +kernel
theorem dX9_unrank_2 : decode cX9_unrank 2 = .ok (.iload_n 2, 1) := by decide +kernel
theorem dX9_unrank_3 : decode cX9_unrank 3 = .ok (.invokevirtual 182, 3) := by decide +kernel
theorem dX9_unrank_6 : decode cX9_unrank 6 = .ok (.aload_n 0, 1) := by decide +kernel
theorem dX9_unrank_7 : decode cX9_unrank 7 = .ok (.getfield 44, 3) := by decide +kernel
theorem dX9_unrank_10 : decode cX9_unrank 10 = .ok (.iload_n 1, 1) := by decide +kernel
theorem dX9_unrank_11 : decode cX9_unrank 11 = .ok (.iload_n 2, 1) := by decide +kernel
theorem dX9_unrank_12 : decode cX9_unrank 12 = .ok (.invokevirtual 168, 3) := by decide +kernel
theorem dX9_unrank_15 : decode cX9_unrank 15 = .ok (.ireturn, 1) := by decide +kernel
theorem dX9_rank_0 : decode cX9_rank 0 = .ok (.iload_n 1, 1) := by decide +kernel
theorem dX9_rank_1 : decode cX9_rank 1 = .ok (.invokestatic 106, 3) := by decide +kernel
theorem dX9_rank_4 : decode cX9_rank 4 = .ok (.aload_n 0, 1) := by decide +kernel
theorem dX9_rank_5 : decode cX9_rank 5 = .ok (.getfield 44, 3) := by decide +kernel
theorem dX9_rank_8 : decode cX9_rank 8 = .ok (.iload_n 1, 1) := by decide +kernel
theorem dX9_rank_9 : decode cX9_rank 9 = .ok (.iload_n 2, 1) := by decide +kernel
theorem dX9_rank_10 : decode cX9_rank 10 = .ok (.invokevirtual 109, 3) := by decide +kernel
theorem dX9_rank_13 : decode cX9_rank 13 = .ok (.ireturn, 1) := by decide +kernel
theorem dX9_statistic_0 : decode cX9_statistic 0 = .ok (.aload_n 0, 1) := by decide +kernel
theorem dX9_statistic_1 : decode cX9_statistic 1 = .ok (.iload_n 1, 1) := by decide +kernel
theorem dX9_statistic_2 : decode cX9_statistic 2 = .ok (.iload_n 3, 1) := by decide +kernel
theorem dX9_statistic_3 : decode cX9_statistic 3 = .ok (.invokevirtual 182, 3) := by decide +kernel
theorem dX9_statistic_6 : decode cX9_statistic 6 = .ok (.iload_n 2, 1) := by decide +kernel
theorem dX9_statistic_7 : decode cX9_statistic 7 = .ok (.invokestatic 120, 3) := by decide +kernel
theorem dX9_statistic_10 : decode cX9_statistic 10 = .ok (.aload_n 0, 1) := by decide +kernel
theorem dX9_statistic_11 : decode cX9_statistic 11 = .ok (.getfield 44, 3) := by decide +kernel
theorem dX9_statistic_14 : decode cX9_statistic 14 = .ok (.iload_n 1, 1) := by decide +kernel
theorem dX9_statistic_15 : decode cX9_statistic 15 = .ok (.iload_n 2, 1) := by decide +kernel
theorem dX9_statistic_16 : decode cX9_statistic 16 = .ok (.iload_n 3, 1) := by decide +kernel
theorem dX9_statistic_17 : decode cX9_statistic 17 = .ok (.invokevirtual 185, 3) := by decide +kernel
theorem dX9_statistic_20 : decode cX9_statistic 20 = .ok (.ireturn, 1) := by decide +kernel
theorem dX9_spread_0 : decode cX9_spread 0 = .ok (.iload_n 1, 1) := by decide +kernel
theorem dX9_spread_1 : decode cX9_spread 1 = .ok (.invokestatic 106, 3) := by decide +kernel
theorem dX9_spread_4 : decode cX9_spread 4 = .ok (.iload_n 2, 1) := by decide +kernel
theorem dX9_spread_5 : decode cX9_spread 5 = .ok (.invokestatic 120, 3) := by decide +kernel
theorem dX9_spread_8 : decode cX9_spread 8 = .ok (.aload_n 0, 1) := by decide +kernel
theorem dX9_spread_9 : decode cX9_spread 9 = .ok (.getfield 44, 3) := by decide +kernel
theorem dX9_spread_12 : decode cX9_spread 12 = .ok (.iload_n 1, 1) := by decide +kernel
theorem dX9_spread_13 : decode cX9_spread 13 = .ok (.iload_n 2, 1) := by decide +kernel
theorem dX9_spread_14 : decode cX9_spread 14 = .ok (.iload_n 3, 1) := by decide +kernel
theorem dX9_spread_15 : decode cX9_spread 15 = .ok (.invokevirtual 189, 3) := by decide +kernel
theorem dX9_spread_18 : decode cX9_spread 18 = .ok (.ireturn, 1) := by decide +kernel
theorem dX9_signs_0 : decode cX9_signs 0 = .ok (.iload_n 1, 1) := by decide +kernel
theorem dX9_signs_1 : decode cX9_signs 1 = .ok (.invokestatic 106, 3) := by decide +kernel
theorem dX9_signs_4 : decode cX9_signs 4 = .ok (.iload_n 2, 1) := by decide +kernel
theorem dX9_signs_5 : decode cX9_signs 5 = .ok (.invokestatic 120, 3) := by decide +kernel
theorem dX9_signs_8 : decode cX9_signs 8 = .ok (.iconst 0, 1) := by decide +kernel
theorem dX9_signs_9 : decode cX9_signs 9 = .ok (.istore_n 3, 1) := by decide +kernel
theorem dX9_signs_10 : decode cX9_signs 10 = .ok (.iconst 0, 1) := by decide +kernel
theorem dX9_signs_11 : decode cX9_signs 11 = .ok (.istore 4, 2) := by decide +kernel
theorem dX9_signs_13 : decode cX9_signs 13 = .ok (.iload 4, 2) := by decide +kernel
theorem dX9_signs_15 : decode cX9_signs 15 = .ok (.bipush 36, 2) := by decide +kernel
theorem dX9_signs_17 : decode cX9_signs 17 = .ok (.if_icmp .gt 29, 3) := by decide +kernel
theorem dX9_signs_20 : decode cX9_signs 20 = .ok (.iload_n 3, 1) := by decide +kernel
theorem dX9_signs_21 : decode cX9_signs 21 = .ok (.iload 4, 2) := by decide +kernel
theorem dX9_signs_23 : decode cX9_signs 23 = .ok (.invokestatic 192, 3) := by decide +kernel
theorem dX9_signs_26 : decode cX9_signs 26 = .ok (.aload_n 0, 1) := by decide +kernel
theorem dX9_signs_27 : decode cX9_signs 27 = .ok (.getfield 44, 3) := by decide +kernel
theorem dX9_signs_30 : decode cX9_signs 30 = .ok (.iload_n 1, 1) := by decide +kernel
theorem dX9_signs_31 : decode cX9_signs 31 = .ok (.iload_n 2, 1) := by decide +kernel
theorem dX9_signs_32 : decode cX9_signs 32 = .ok (.iload 4, 2) := by decide +kernel
theorem dX9_signs_34 : decode cX9_signs 34 = .ok (.invokevirtual 189, 3) := by decide +kernel
theorem dX9_signs_37 : decode cX9_signs 37 = .ok (.imul, 1) := by decide +kernel
theorem dX9_signs_38 : decode cX9_signs 38 = .ok (.iadd, 1) := by decide +kernel
theorem dX9_signs_39 : decode cX9_signs 39 = .ok (.istore_n 3, 1) := by decide +kernel
theorem dX9_signs_40 : decode cX9_signs 40 = .ok (.iinc 4 1, 3) := by decide +kernel
theorem dX9_signs_43 : decode cX9_signs 43 = .ok (.goto (-30), 3) := by decide +kernel
theorem dX9_signs_46 : decode cX9_signs 46 = .ok (.iload_n 3, 1) := by decide +kernel
theorem dX9_signs_47 : decode cX9_signs 47 = .ok (.ireturn, 1) := by decide +kernel
theorem dX9_alike_0 : decode cX9_alike 0 = .ok (.iload_n 1, 1) := by decide +kernel
theorem dX9_alike_1 : decode cX9_alike 1 = .ok (.invokestatic 106, 3) := by decide +kernel
theorem dX9_alike_4 : decode cX9_alike 4 = .ok (.iload_n 3, 1) := by decide +kernel
theorem dX9_alike_5 : decode cX9_alike 5 = .ok (.invokestatic 106, 3) := by decide +kernel
theorem dX9_alike_8 : decode cX9_alike 8 = .ok (.iload_n 2, 1) := by decide +kernel
theorem dX9_alike_9 : decode cX9_alike 9 = .ok (.invokestatic 120, 3) := by decide +kernel
theorem dX9_alike_12 : decode cX9_alike 12 = .ok (.iload 4, 2) := by decide +kernel
theorem dX9_alike_14 : decode cX9_alike 14 = .ok (.invokestatic 120, 3) := by decide +kernel
theorem dX9_alike_17 : decode cX9_alike 17 = .ok (.iconst 0, 1) := by decide +kernel
theorem dX9_alike_18 : decode cX9_alike 18 = .ok (.istore 5, 2) := by decide +kernel
theorem dX9_alike_20 : decode cX9_alike 20 = .ok (.iload 5, 2) := by decide +kernel
theorem dX9_alike_22 : decode cX9_alike 22 = .ok (.bipush 36, 2) := by decide +kernel
theorem dX9_alike_24 : decode cX9_alike 24 = .ok (.if_icmp .gt 37, 3) := by decide +kernel
theorem dX9_alike_27 : decode cX9_alike 27 = .ok (.aload_n 0, 1) := by decide +kernel
theorem dX9_alike_28 : decode cX9_alike 28 = .ok (.getfield 44, 3) := by decide +kernel
theorem dX9_alike_31 : decode cX9_alike 31 = .ok (.iload_n 1, 1) := by decide +kernel
theorem dX9_alike_32 : decode cX9_alike 32 = .ok (.iload_n 2, 1) := by decide +kernel
theorem dX9_alike_33 : decode cX9_alike 33 = .ok (.iload 5, 2) := by decide +kernel
theorem dX9_alike_35 : decode cX9_alike 35 = .ok (.invokevirtual 189, 3) := by decide +kernel
theorem dX9_alike_38 : decode cX9_alike 38 = .ok (.aload_n 0, 1) := by decide +kernel
theorem dX9_alike_39 : decode cX9_alike 39 = .ok (.getfield 44, 3) := by decide +kernel
theorem dX9_alike_42 : decode cX9_alike 42 = .ok (.iload_n 3, 1) := by decide +kernel
theorem dX9_alike_43 : decode cX9_alike 43 = .ok (.iload 4, 2) := by decide +kernel
theorem dX9_alike_45 : decode cX9_alike 45 = .ok (.iload 5, 2) := by decide +kernel
theorem dX9_alike_47 : decode cX9_alike 47 = .ok (.invokevirtual 189, 3) := by decide +kernel
theorem dX9_alike_50 : decode cX9_alike 50 = .ok (.if_icmp .eq 5, 3) := by decide +kernel
theorem dX9_alike_53 : decode cX9_alike 53 = .ok (.iconst 0, 1) := by decide +kernel
theorem dX9_alike_54 : decode cX9_alike 54 = .ok (.ireturn, 1) := by decide +kernel
theorem dX9_alike_55 : decode cX9_alike 55 = .ok (.iinc 5 1, 3) := by decide +kernel
theorem dX9_alike_58 : decode cX9_alike 58 = .ok (.goto (-38), 3) := by decide +kernel
theorem dX9_alike_61 : decode cX9_alike 61 = .ok (.iconst 1, 1) := by decide +kernel
theorem dX9_alike_62 : decode cX9_alike 62 = .ok (.ireturn, 1) := by decide +kernel
theorem dX9_contains_0 : decode cX9_contains 0 = .ok (.aload_n 0, 1) := by decide +kernel
theorem dX9_contains_1 : decode cX9_contains 1 = .ok (.iconst 2, 1) := by decide +kernel
theorem dX9_contains_2 : decode cX9_contains 2 = .ok (.iload_n 1, 1) := by decide +kernel
theorem dX9_contains_3 : decode cX9_contains 3 = .ok (.invokevirtual 182, 3) := by decide +kernel
theorem dX9_contains_6 : decode cX9_contains 6 = .ok (.iload_n 2, 1) := by decide +kernel
theorem dX9_contains_7 : decode cX9_contains 7 = .ok (.invokestatic 195, 3) := by decide +kernel
theorem dX9_contains_10 : decode cX9_contains 10 = .ok (.istore_n 3, 1) := by decide +kernel
theorem dX9_contains_11 : decode cX9_contains 11 = .ok (.iload_n 3, 1) := by decide +kernel
theorem dX9_contains_12 : decode cX9_contains 12 = .ok (.iconst (-1), 1) := by decide +kernel
theorem dX9_contains_13 : decode cX9_contains 13 = .ok (.if_icmp .ne 13, 3) := by decide +kernel
theorem dX9_contains_16 : decode cX9_contains 16 = .ok (.new 48, 3) := by decide +kernel
theorem dX9_contains_19 : decode cX9_contains 19 = .ok (.dup, 1) := by decide +kernel
theorem dX9_contains_20 : decode cX9_contains 20 = .ok (.ldc 198, 2) := by decide +kernel
theorem dX9_contains_22 : decode cX9_contains 22 = .ok (.invokespecial 52, 3) := by decide +kernel
theorem dX9_contains_25 : decode cX9_contains 25 = .ok (.athrow, 1) := by decide +kernel
theorem dX9_contains_26 : decode cX9_contains 26 = .ok (.aload_n 0, 1) := by decide +kernel
theorem dX9_contains_27 : decode cX9_contains 27 = .ok (.getfield 44, 3) := by decide +kernel
theorem dX9_contains_30 : decode cX9_contains 30 = .ok (.iconst 2, 1) := by decide +kernel
theorem dX9_contains_31 : decode cX9_contains 31 = .ok (.iload_n 1, 1) := by decide +kernel
theorem dX9_contains_32 : decode cX9_contains 32 = .ok (.invokevirtual 168, 3) := by decide +kernel
theorem dX9_contains_35 : decode cX9_contains 35 = .ok (.aload_n 0, 1) := by decide +kernel
theorem dX9_contains_36 : decode cX9_contains 36 = .ok (.getfield 44, 3) := by decide +kernel
theorem dX9_contains_39 : decode cX9_contains 39 = .ok (.getfield 200, 3) := by decide +kernel
theorem dX9_contains_42 : decode cX9_contains 42 = .ok (.iload_n 2, 1) := by decide +kernel
theorem dX9_contains_43 : decode cX9_contains 43 = .ok (.iload_n 3, 1) := by decide +kernel
theorem dX9_contains_44 : decode cX9_contains 44 = .ok (.invokestatic 203, 3) := by decide +kernel
theorem dX9_contains_47 : decode cX9_contains 47 = .ok (.ireturn, 1) := by decide +kernel
theorem dX9_sorted_0 : decode cX9_sorted 0 = .ok (.iload_n 1, 1) := by decide +kernel
theorem dX9_sorted_1 : decode cX9_sorted 1 = .ok (.ifCond .lt 9, 3) := by decide +kernel
theorem dX9_sorted_4 : decode cX9_sorted 4 = .ok (.iload_n 1, 1) := by decide +kernel
theorem dX9_sorted_5 : decode cX9_sorted 5 = .ok (.bipush 6, 2) := by decide +kernel
theorem dX9_sorted_7 : decode cX9_sorted 7 = .ok (.if_icmp .le 13, 3) := by decide +kernel
theorem dX9_sorted_10 : decode cX9_sorted 10 = .ok (.new 48, 3) := by decide +kernel
theorem dX9_sorted_13 : decode cX9_sorted 13 = .ok (.dup, 1) := by decide +kernel
theorem dX9_sorted_14 : decode cX9_sorted 14 = .ok (.ldc 209, 2) := by decide +kernel
theorem dX9_sorted_16 : decode cX9_sorted 16 = .ok (.invokespecial 52, 3) := by decide +kernel
theorem dX9_sorted_19 : decode cX9_sorted 19 = .ok (.athrow, 1) := by decide +kernel
theorem dX9_sorted_20 : decode cX9_sorted 20 = .ok (.iconst 0, 1) := by decide +kernel
theorem dX9_sorted_21 : decode cX9_sorted 21 = .ok (.istore_n 2, 1) := by decide +kernel
theorem dX9_sorted_22 : decode cX9_sorted 22 = .ok (.iconst 0, 1) := by decide +kernel
theorem dX9_sorted_23 : decode cX9_sorted 23 = .ok (.istore_n 3, 1) := by decide +kernel
theorem dX9_sorted_24 : decode cX9_sorted 24 = .ok (.iload_n 3, 1) := by decide +kernel
theorem dX9_sorted_25 : decode cX9_sorted 25 = .ok (.aload_n 0, 1) := by decide +kernel
theorem dX9_sorted_26 : decode cX9_sorted 26 = .ok (.getfield 44, 3) := by decide +kernel
theorem dX9_sorted_29 : decode cX9_sorted 29 = .ok (.iconst 2, 1) := by decide +kernel
theorem dX9_sorted_30 : decode cX9_sorted 30 = .ok (.invokevirtual 178, 3) := by decide +kernel
theorem dX9_sorted_33 : decode cX9_sorted 33 = .ok (.if_icmp .ge 24, 3) := by decide +kernel
theorem dX9_sorted_36 : decode cX9_sorted 36 = .ok (.aload_n 0, 1) := by decide +kernel
theorem dX9_sorted_37 : decode cX9_sorted 37 = .ok (.getfield 44, 3) := by decide +kernel
theorem dX9_sorted_40 : decode cX9_sorted 40 = .ok (.iload_n 3, 1) := by decide +kernel
theorem dX9_sorted_41 : decode cX9_sorted 41 = .ok (.iload_n 1, 1) := by decide +kernel
theorem dX9_sorted_42 : decode cX9_sorted 42 = .ok (.invokevirtual 211, 3) := by decide +kernel
theorem dX9_sorted_45 : decode cX9_sorted 45 = .ok (.ifCond .eq 6, 3) := by decide +kernel
theorem dX9_sorted_48 : decode cX9_sorted 48 = .ok (.iinc 2 1, 3) := by decide +kernel
theorem dX9_sorted_51 : decode cX9_sorted 51 = .ok (.iinc 3 1, 3) := by decide +kernel
theorem dX9_sorted_54 : decode cX9_sorted 54 = .ok (.goto (-30), 3) := by decide +kernel
theorem dX9_sorted_57 : decode cX9_sorted 57 = .ok (.iload_n 2, 1) := by decide +kernel
theorem dX9_sorted_58 : decode cX9_sorted 58 = .ok (.ireturn, 1) := by decide +kernel
theorem dX9_ofMap_0 : decode cX9_ofMap 0 = .ok (.aload_n 0, 1) := by decide +kernel
theorem dX9_ofMap_1 : decode cX9_ofMap 1 = .ok (.iload_n 1, 1) := by decide +kernel
theorem dX9_ofMap_2 : decode cX9_ofMap 2 = .ok (.invokevirtual 73, 3) := by decide +kernel
theorem dX9_ofMap_5 : decode cX9_ofMap 5 = .ok (.astore_n 3, 1) := by decide +kernel
theorem dX9_ofMap_6 : decode cX9_ofMap 6 = .ok (.iload_n 2, 1) := by decide +kernel
theorem dX9_ofMap_7 : decode cX9_ofMap 7 = .ok (.ifCond .lt 9, 3) := by decide +kernel
theorem dX9_ofMap_10 : decode cX9_ofMap 10 = .ok (.iload_n 2, 1) := by decide +kernel
theorem dX9_ofMap_11 : decode cX9_ofMap 11 = .ok (.bipush 8, 2) := by decide +kernel
theorem dX9_ofMap_13 : decode cX9_ofMap 13 = .ok (.if_icmp .lt 13, 3) := by decide +kernel
theorem dX9_ofMap_16 : decode cX9_ofMap 16 = .ok (.new 48, 3) := by decide +kernel
theorem dX9_ofMap_19 : decode cX9_ofMap 19 = .ok (.dup, 1) := by decide +kernel
theorem dX9_ofMap_20 : decode cX9_ofMap 20 = .ok (.ldc 215, 2) := by decide +kernel
theorem dX9_ofMap_22 : decode cX9_ofMap 22 = .ok (.invokespecial 52, 3) := by decide +kernel
theorem dX9_ofMap_25 : decode cX9_ofMap 25 = .ok (.athrow, 1) := by decide +kernel
theorem dX9_ofMap_26 : decode cX9_ofMap 26 = .ok (.aload_n 0, 1) := by decide +kernel
theorem dX9_ofMap_27 : decode cX9_ofMap 27 = .ok (.getfield 18, 3) := by decide +kernel
theorem dX9_ofMap_30 : decode cX9_ofMap 30 = .ok (.aload_n 3, 1) := by decide +kernel
theorem dX9_ofMap_31 : decode cX9_ofMap 31 = .ok (.aload_n 0, 1) := by decide +kernel
theorem dX9_ofMap_32 : decode cX9_ofMap 32 = .ok (.getfield 44, 3) := by decide +kernel
theorem dX9_ofMap_35 : decode cX9_ofMap 35 = .ok (.invokevirtual 217, 3) := by decide +kernel
theorem dX9_ofMap_38 : decode cX9_ofMap 38 = .ok (.iload_n 2, 1) := by decide +kernel
theorem dX9_ofMap_39 : decode cX9_ofMap 39 = .ok (.tableswitch 114 0 6 #[41, 46, 51, 56, 80, 104, 109], 41) := by decide +kernel
theorem dX9_ofMap_80 : decode cX9_ofMap 80 = .ok (.aload_n 3, 1) := by decide +kernel
theorem dX9_ofMap_81 : decode cX9_ofMap 81 = .ok (.getfield 141, 3) := by decide +kernel
theorem dX9_ofMap_84 : decode cX9_ofMap 84 = .ok (.ireturn, 1) := by decide +kernel
theorem dX9_ofMap_85 : decode cX9_ofMap 85 = .ok (.aload_n 3, 1) := by decide +kernel
theorem dX9_ofMap_86 : decode cX9_ofMap 86 = .ok (.getfield 98, 3) := by decide +kernel
theorem dX9_ofMap_89 : decode cX9_ofMap 89 = .ok (.ireturn, 1) := by decide +kernel
theorem dX9_ofMap_90 : decode cX9_ofMap 90 = .ok (.aload_n 3, 1) := by decide +kernel
theorem dX9_ofMap_91 : decode cX9_ofMap 91 = .ok (.getfield 77, 3) := by decide +kernel
theorem dX9_ofMap_94 : decode cX9_ofMap 94 = .ok (.ireturn, 1) := by decide +kernel
theorem dX9_ofMap_95 : decode cX9_ofMap 95 = .ok (.aload_n 3, 1) := by decide +kernel
theorem dX9_ofMap_96 : decode cX9_ofMap 96 = .ok (.getfield 221, 3) := by decide +kernel
theorem dX9_ofMap_99 : decode cX9_ofMap 99 = .ok (.aload_n 0, 1) := by decide +kernel
theorem dX9_ofMap_100 : decode cX9_ofMap 100 = .ok (.getfield 44, 3) := by decide +kernel
theorem dX9_ofMap_103 : decode cX9_ofMap 103 = .ok (.aload_n 3, 1) := by decide +kernel
theorem dX9_ofMap_104 : decode cX9_ofMap 104 = .ok (.getfield 141, 3) := by decide +kernel
theorem dX9_ofMap_107 : decode cX9_ofMap 107 = .ok (.invokevirtual 178, 3) := by decide +kernel
theorem dX9_ofMap_110 : decode cX9_ofMap 110 = .ok (.if_icmp .ne 7, 3) := by decide +kernel
theorem dX9_ofMap_113 : decode cX9_ofMap 113 = .ok (.iconst 1, 1) := by decide +kernel
theorem dX9_ofMap_114 : decode cX9_ofMap 114 = .ok (.goto 4, 3) := by decide +kernel
theorem dX9_ofMap_117 : decode cX9_ofMap 117 = .ok (.iconst 0, 1) := by decide +kernel
theorem dX9_ofMap_118 : decode cX9_ofMap 118 = .ok (.ireturn, 1) := by decide +kernel
theorem dX9_ofMap_119 : decode cX9_ofMap 119 = .ok (.aload_n 3, 1) := by decide +kernel
theorem dX9_ofMap_120 : decode cX9_ofMap 120 = .ok (.getfield 221, 3) := by decide +kernel
theorem dX9_ofMap_123 : decode cX9_ofMap 123 = .ok (.aload_n 0, 1) := by decide +kernel
theorem dX9_ofMap_124 : decode cX9_ofMap 124 = .ok (.getfield 44, 3) := by decide +kernel
theorem dX9_ofMap_127 : decode cX9_ofMap 127 = .ok (.aload_n 3, 1) := by decide +kernel
theorem dX9_ofMap_128 : decode cX9_ofMap 128 = .ok (.getfield 98, 3) := by decide +kernel
theorem dX9_ofMap_131 : decode cX9_ofMap 131 = .ok (.invokevirtual 178, 3) := by decide +kernel
theorem dX9_ofMap_134 : decode cX9_ofMap 134 = .ok (.if_icmp .ne 7, 3) := by decide +kernel
theorem dX9_ofMap_137 : decode cX9_ofMap 137 = .ok (.iconst 1, 1) := by decide +kernel
theorem dX9_ofMap_138 : decode cX9_ofMap 138 = .ok (.goto 4, 3) := by decide +kernel
theorem dX9_ofMap_141 : decode cX9_ofMap 141 = .ok (.iconst 0, 1) := by decide +kernel
theorem dX9_ofMap_142 : decode cX9_ofMap 142 = .ok (.ireturn, 1) := by decide +kernel
theorem dX9_ofMap_143 : decode cX9_ofMap 143 = .ok (.aload_n 3, 1) := by decide +kernel
theorem dX9_ofMap_144 : decode cX9_ofMap 144 = .ok (.getfield 221, 3) := by decide +kernel
theorem dX9_ofMap_147 : decode cX9_ofMap 147 = .ok (.ireturn, 1) := by decide +kernel
theorem dX9_ofMap_148 : decode cX9_ofMap 148 = .ok (.aload_n 3, 1) := by decide +kernel
theorem dX9_ofMap_149 : decode cX9_ofMap 149 = .ok (.getfield 224, 3) := by decide +kernel
theorem dX9_ofMap_152 : decode cX9_ofMap 152 = .ok (.ireturn, 1) := by decide +kernel
theorem dX9_ofMap_153 : decode cX9_ofMap 153 = .ok (.aload_n 3, 1) := by decide +kernel
theorem dX9_ofMap_154 : decode cX9_ofMap 154 = .ok (.getfield 82, 3) := by decide +kernel
theorem dX9_ofMap_157 : decode cX9_ofMap 157 = .ok (.ifCond .eq 7, 3) := by decide +kernel
theorem dX9_ofMap_160 : decode cX9_ofMap 160 = .ok (.iconst 1, 1) := by decide +kernel
theorem dX9_ofMap_161 : decode cX9_ofMap 161 = .ok (.goto 4, 3) := by decide +kernel
theorem dX9_ofMap_164 : decode cX9_ofMap 164 = .ok (.iconst 0, 1) := by decide +kernel
theorem dX9_ofMap_165 : decode cX9_ofMap 165 = .ok (.ireturn, 1) := by decide +kernel
theorem dX9_image_0 : decode cX9_image 0 = .ok (.aload_n 0, 1) := by decide +kernel
theorem dX9_image_1 : decode cX9_image 1 = .ok (.iload_n 1, 1) := by decide +kernel
theorem dX9_image_2 : decode cX9_image 2 = .ok (.invokevirtual 73, 3) := by decide +kernel
theorem dX9_image_5 : decode cX9_image 5 = .ok (.astore_n 3, 1) := by decide +kernel
theorem dX9_image_6 : decode cX9_image 6 = .ok (.aload_n 0, 1) := by decide +kernel
theorem dX9_image_7 : decode cX9_image 7 = .ok (.aload_n 3, 1) := by decide +kernel
theorem dX9_image_8 : decode cX9_image 8 = .ok (.getfield 141, 3) := by decide +kernel
theorem dX9_image_11 : decode cX9_image 11 = .ok (.iload_n 2, 1) := by decide +kernel
theorem dX9_image_12 : decode cX9_image 12 = .ok (.invokevirtual 182, 3) := by decide +kernel
theorem dX9_image_15 : decode cX9_image 15 = .ok (.aload_n 0, 1) := by decide +kernel
theorem dX9_image_16 : decode cX9_image 16 = .ok (.getfield 44, 3) := by decide +kernel
theorem dX9_image_19 : decode cX9_image 19 = .ok (.aload_n 3, 1) := by decide +kernel
theorem dX9_image_20 : decode cX9_image 20 = .ok (.iload_n 2, 1) := by decide +kernel
theorem dX9_image_21 : decode cX9_image 21 = .ok (.invokevirtual 158, 3) := by decide +kernel
theorem dX9_image_24 : decode cX9_image 24 = .ok (.ireturn, 1) := by decide +kernel
theorem dX9_source_0 : decode cX9_source 0 = .ok (.aload_n 0, 1) := by decide +kernel
theorem dX9_source_1 : decode cX9_source 1 = .ok (.iload_n 1, 1) := by decide +kernel
theorem dX9_source_2 : decode cX9_source 2 = .ok (.invokevirtual 73, 3) := by decide +kernel
theorem dX9_source_5 : decode cX9_source 5 = .ok (.astore_n 3, 1) := by decide +kernel
theorem dX9_source_6 : decode cX9_source 6 = .ok (.aload_n 0, 1) := by decide +kernel
theorem dX9_source_7 : decode cX9_source 7 = .ok (.aload_n 3, 1) := by decide +kernel
theorem dX9_source_8 : decode cX9_source 8 = .ok (.getfield 98, 3) := by decide +kernel
theorem dX9_source_11 : decode cX9_source 11 = .ok (.iload_n 2, 1) := by decide +kernel
theorem dX9_source_12 : decode cX9_source 12 = .ok (.invokevirtual 182, 3) := by decide +kernel
theorem dX9_source_15 : decode cX9_source 15 = .ok (.iconst 0, 1) := by decide +kernel
theorem dX9_source_16 : decode cX9_source 16 = .ok (.istore 4, 2) := by decide +kernel
theorem dX9_source_18 : decode cX9_source 18 = .ok (.iload 4, 2) := by decide +kernel
theorem dX9_source_20 : decode cX9_source 20 = .ok (.aload_n 0, 1) := by decide +kernel
theorem dX9_source_21 : decode cX9_source 21 = .ok (.getfield 44, 3) := by decide +kernel
theorem dX9_source_24 : decode cX9_source 24 = .ok (.aload_n 3, 1) := by decide +kernel
theorem dX9_source_25 : decode cX9_source 25 = .ok (.getfield 141, 3) := by decide +kernel
theorem dX9_source_28 : decode cX9_source 28 = .ok (.invokevirtual 178, 3) := by decide +kernel
theorem dX9_source_31 : decode cX9_source 31 = .ok (.if_icmp .ge 26, 3) := by decide +kernel
theorem dX9_source_34 : decode cX9_source 34 = .ok (.aload_n 0, 1) := by decide +kernel
theorem dX9_source_35 : decode cX9_source 35 = .ok (.getfield 44, 3) := by decide +kernel
theorem dX9_source_38 : decode cX9_source 38 = .ok (.aload_n 3, 1) := by decide +kernel
theorem dX9_source_39 : decode cX9_source 39 = .ok (.iload 4, 2) := by decide +kernel
theorem dX9_source_41 : decode cX9_source 41 = .ok (.invokevirtual 158, 3) := by decide +kernel
theorem dX9_source_44 : decode cX9_source 44 = .ok (.iload_n 2, 1) := by decide +kernel
theorem dX9_source_45 : decode cX9_source 45 = .ok (.if_icmp .ne 6, 3) := by decide +kernel
theorem dX9_source_48 : decode cX9_source 48 = .ok (.iload 4, 2) := by decide +kernel
theorem dX9_source_50 : decode cX9_source 50 = .ok (.ireturn, 1) := by decide +kernel
theorem dX9_source_51 : decode cX9_source 51 = .ok (.iinc 4 1, 3) := by decide +kernel
theorem dX9_source_54 : decode cX9_source 54 = .ok (.goto (-36), 3) := by decide +kernel
theorem dX9_source_57 : decode cX9_source 57 = .ok (.iconst (-1), 1) := by decide +kernel
theorem dX9_source_58 : decode cX9_source 58 = .ok (.ireturn, 1) := by decide +kernel
theorem dX9_rounds_0 : decode cX9_rounds 0 = .ok (.aload_n 0, 1) := by decide +kernel
theorem dX9_rounds_1 : decode cX9_rounds 1 = .ok (.iload_n 1, 1) := by decide +kernel
theorem dX9_rounds_2 : decode cX9_rounds 2 = .ok (.invokevirtual 73, 3) := by decide +kernel
theorem dX9_rounds_5 : decode cX9_rounds 5 = .ok (.astore_n 2, 1) := by decide +kernel
theorem dX9_rounds_6 : decode cX9_rounds 6 = .ok (.aload_n 0, 1) := by decide +kernel
theorem dX9_rounds_7 : decode cX9_rounds 7 = .ok (.getfield 18, 3) := by decide +kernel
theorem dX9_rounds_10 : decode cX9_rounds 10 = .ok (.aload_n 2, 1) := by decide +kernel
theorem dX9_rounds_11 : decode cX9_rounds 11 = .ok (.aload_n 0, 1) := by decide +kernel
theorem dX9_rounds_12 : decode cX9_rounds 12 = .ok (.getfield 44, 3) := by decide +kernel
theorem dX9_rounds_15 : decode cX9_rounds 15 = .ok (.invokevirtual 217, 3) := by decide +kernel
theorem dX9_rounds_18 : decode cX9_rounds 18 = .ok (.aload_n 2, 1) := by decide +kernel
theorem dX9_rounds_19 : decode cX9_rounds 19 = .ok (.getfield 227, 3) := by decide +kernel
theorem dX9_rounds_22 : decode cX9_rounds 22 = .ok (.ireturn, 1) := by decide +kernel
theorem dX9_period_0 : decode cX9_period 0 = .ok (.aload_n 0, 1) := by decide +kernel
theorem dX9_period_1 : decode cX9_period 1 = .ok (.iload_n 1, 1) := by decide +kernel
theorem dX9_period_2 : decode cX9_period 2 = .ok (.invokevirtual 73, 3) := by decide +kernel
theorem dX9_period_5 : decode cX9_period 5 = .ok (.astore_n 2, 1) := by decide +kernel
theorem dX9_period_6 : decode cX9_period 6 = .ok (.aload_n 0, 1) := by decide +kernel
theorem dX9_period_7 : decode cX9_period 7 = .ok (.getfield 18, 3) := by decide +kernel
theorem dX9_period_10 : decode cX9_period 10 = .ok (.aload_n 2, 1) := by decide +kernel
theorem dX9_period_11 : decode cX9_period 11 = .ok (.aload_n 0, 1) := by decide +kernel
theorem dX9_period_12 : decode cX9_period 12 = .ok (.getfield 44, 3) := by decide +kernel
theorem dX9_period_15 : decode cX9_period 15 = .ok (.invokevirtual 217, 3) := by decide +kernel
theorem dX9_period_18 : decode cX9_period 18 = .ok (.aload_n 2, 1) := by decide +kernel
theorem dX9_period_19 : decode cX9_period 19 = .ok (.getfield 230, 3) := by decide +kernel
theorem dX9_period_22 : decode cX9_period 22 = .ok (.lreturn, 1) := by decide +kernel
theorem dX9_against_0 : decode cX9_against 0 = .ok (.aload_n 0, 1) := by decide +kernel
theorem dX9_against_1 : decode cX9_against 1 = .ok (.iload_n 1, 1) := by decide +kernel
theorem dX9_against_2 : decode cX9_against 2 = .ok (.invokevirtual 73, 3) := by decide +kernel
theorem dX9_against_5 : decode cX9_against 5 = .ok (.astore 4, 2) := by decide +kernel
theorem dX9_against_7 : decode cX9_against 7 = .ok (.iload_n 2, 1) := by decide +kernel
theorem dX9_against_8 : decode cX9_against 8 = .ok (.invokestatic 120, 3) := by decide +kernel
theorem dX9_against_11 : decode cX9_against 11 = .ok (.iload_n 3, 1) := by decide +kernel
theorem dX9_against_12 : decode cX9_against 12 = .ok (.invokestatic 120, 3) := by decide +kernel
theorem dX9_against_15 : decode cX9_against 15 = .ok (.aload_n 0, 1) := by decide +kernel
theorem dX9_against_16 : decode cX9_against 16 = .ok (.aload 4, 2) := by decide +kernel
theorem dX9_against_18 : decode cX9_against 18 = .ok (.iload_n 2, 1) := by decide +kernel
theorem dX9_against_19 : decode cX9_against 19 = .ok (.iload_n 3, 1) := by decide +kernel
theorem dX9_against_20 : decode cX9_against 20 = .ok (.invokevirtual 234, 3) := by decide +kernel
theorem dX9_against_23 : decode cX9_against 23 = .ok (.ireturn, 1) := by decide +kernel
theorem dX9_cancels_0 : decode cX9_cancels 0 = .ok (.aload_n 0, 1) := by decide +kernel
theorem dX9_cancels_1 : decode cX9_cancels 1 = .ok (.iload_n 1, 1) := by decide +kernel
theorem dX9_cancels_2 : decode cX9_cancels 2 = .ok (.invokevirtual 73, 3) := by decide +kernel
theorem dX9_cancels_5 : decode cX9_cancels 5 = .ok (.astore_n 3, 1) := by decide +kernel
theorem dX9_cancels_6 : decode cX9_cancels 6 = .ok (.iload_n 2, 1) := by decide +kernel
theorem dX9_cancels_7 : decode cX9_cancels 7 = .ok (.invokestatic 120, 3) := by decide +kernel
theorem dX9_cancels_10 : decode cX9_cancels 10 = .ok (.aload_n 3, 1) := by decide +kernel
theorem dX9_cancels_11 : decode cX9_cancels 11 = .ok (.invokevirtual 149, 3) := by decide +kernel
theorem dX9_cancels_14 : decode cX9_cancels 14 = .ok (.ifCond .ne 5, 3) := by decide +kernel
theorem dX9_cancels_17 : decode cX9_cancels 17 = .ok (.iconst 0, 1) := by decide +kernel
theorem dX9_cancels_18 : decode cX9_cancels 18 = .ok (.ireturn, 1) := by decide +kernel
theorem dX9_cancels_19 : decode cX9_cancels 19 = .ok (.iconst 0, 1) := by decide +kernel
theorem dX9_cancels_20 : decode cX9_cancels 20 = .ok (.istore 4, 2) := by decide +kernel
theorem dX9_cancels_22 : decode cX9_cancels 22 = .ok (.iload 4, 2) := by decide +kernel
theorem dX9_cancels_24 : decode cX9_cancels 24 = .ok (.aload_n 0, 1) := by decide +kernel
theorem dX9_cancels_25 : decode cX9_cancels 25 = .ok (.getfield 44, 3) := by decide +kernel
theorem dX9_cancels_28 : decode cX9_cancels 28 = .ok (.aload_n 3, 1) := by decide +kernel
theorem dX9_cancels_29 : decode cX9_cancels 29 = .ok (.getfield 141, 3) := by decide +kernel
theorem dX9_cancels_32 : decode cX9_cancels 32 = .ok (.invokevirtual 178, 3) := by decide +kernel
theorem dX9_cancels_35 : decode cX9_cancels 35 = .ok (.if_icmp .ge 22, 3) := by decide +kernel
theorem dX9_cancels_38 : decode cX9_cancels 38 = .ok (.aload_n 0, 1) := by decide +kernel
theorem dX9_cancels_39 : decode cX9_cancels 39 = .ok (.aload_n 3, 1) := by decide +kernel
theorem dX9_cancels_40 : decode cX9_cancels 40 = .ok (.iload_n 2, 1) := by decide +kernel
theorem dX9_cancels_41 : decode cX9_cancels 41 = .ok (.iload 4, 2) := by decide +kernel
theorem dX9_cancels_43 : decode cX9_cancels 43 = .ok (.invokevirtual 238, 3) := by decide +kernel
theorem dX9_cancels_46 : decode cX9_cancels 46 = .ok (.ifCond .ne 5, 3) := by decide +kernel
theorem dX9_cancels_49 : decode cX9_cancels 49 = .ok (.iconst 0, 1) := by decide +kernel
theorem dX9_cancels_50 : decode cX9_cancels 50 = .ok (.ireturn, 1) := by decide +kernel
theorem dX9_cancels_51 : decode cX9_cancels 51 = .ok (.iinc 4 1, 3) := by decide +kernel
theorem dX9_cancels_54 : decode cX9_cancels 54 = .ok (.goto (-32), 3) := by decide +kernel
theorem dX9_cancels_57 : decode cX9_cancels 57 = .ok (.iconst 1, 1) := by decide +kernel
theorem dX9_cancels_58 : decode cX9_cancels 58 = .ok (.ireturn, 1) := by decide +kernel
theorem dX9_ofWalker_0 : decode cX9_ofWalker 0 = .ok (.aload_n 0, 1) := by decide +kernel
theorem dX9_ofWalker_1 : decode cX9_ofWalker 1 = .ok (.iload_n 1, 1) := by decide +kernel
theorem dX9_ofWalker_2 : decode cX9_ofWalker 2 = .ok (.invokevirtual 135, 3) := by decide +kernel
theorem dX9_ofWalker_5 : decode cX9_ofWalker 5 = .ok (.astore_n 3, 1) := by decide +kernel
theorem dX9_ofWalker_6 : decode cX9_ofWalker 6 = .ok (.iload_n 2, 1) := by decide +kernel
theorem dX9_ofWalker_7 : decode cX9_ofWalker 7 = .ok (.ifCond .lt 8, 3) := by decide +kernel
theorem dX9_ofWalker_10 : decode cX9_ofWalker 10 = .ok (.iload_n 2, 1) := by decide +kernel
theorem dX9_ofWalker_11 : decode cX9_ofWalker 11 = .ok (.iconst 5, 1) := by decide +kernel
theorem dX9_ofWalker_12 : decode cX9_ofWalker 12 = .ok (.if_icmp .lt 13, 3) := by decide +kernel
theorem dX9_ofWalker_15 : decode cX9_ofWalker 15 = .ok (.new 48, 3) := by decide +kernel
theorem dX9_ofWalker_18 : decode cX9_ofWalker 18 = .ok (.dup, 1) := by decide +kernel
theorem dX9_ofWalker_19 : decode cX9_ofWalker 19 = .ok (.ldc 242, 2) := by decide +kernel
theorem dX9_ofWalker_21 : decode cX9_ofWalker 21 = .ok (.invokespecial 52, 3) := by decide +kernel
theorem dX9_ofWalker_24 : decode cX9_ofWalker 24 = .ok (.athrow, 1) := by decide +kernel
theorem dX9_ofWalker_25 : decode cX9_ofWalker 25 = .ok (.iload_n 2, 1) := by decide +kernel
theorem dX9_ofWalker_26 : decode cX9_ofWalker 26 = .ok (.tableswitch 72 0 3 #[30, 35, 51, 67], 30) := by decide +kernel
theorem dX9_ofWalker_56 : decode cX9_ofWalker 56 = .ok (.aload_n 3, 1) := by decide +kernel
theorem dX9_ofWalker_57 : decode cX9_ofWalker 57 = .ok (.getfield 144, 3) := by decide +kernel
theorem dX9_ofWalker_60 : decode cX9_ofWalker 60 = .ok (.ireturn, 1) := by decide +kernel
theorem dX9_ofWalker_61 : decode cX9_ofWalker 61 = .ok (.aload_n 0, 1) := by decide +kernel
theorem dX9_ofWalker_62 : decode cX9_ofWalker 62 = .ok (.getfield 44, 3) := by decide +kernel
theorem dX9_ofWalker_65 : decode cX9_ofWalker 65 = .ok (.aload_n 3, 1) := by decide +kernel
theorem dX9_ofWalker_66 : decode cX9_ofWalker 66 = .ok (.getfield 144, 3) := by decide +kernel
theorem dX9_ofWalker_69 : decode cX9_ofWalker 69 = .ok (.aload_n 3, 1) := by decide +kernel
theorem dX9_ofWalker_70 : decode cX9_ofWalker 70 = .ok (.getfield 155, 3) := by decide +kernel
theorem dX9_ofWalker_73 : decode cX9_ofWalker 73 = .ok (.invokevirtual 168, 3) := by decide +kernel
theorem dX9_ofWalker_76 : decode cX9_ofWalker 76 = .ok (.ireturn, 1) := by decide +kernel
theorem dX9_ofWalker_77 : decode cX9_ofWalker 77 = .ok (.aload_n 0, 1) := by decide +kernel
theorem dX9_ofWalker_78 : decode cX9_ofWalker 78 = .ok (.getfield 44, 3) := by decide +kernel
theorem dX9_ofWalker_81 : decode cX9_ofWalker 81 = .ok (.aload_n 3, 1) := by decide +kernel
theorem dX9_ofWalker_82 : decode cX9_ofWalker 82 = .ok (.getfield 244, 3) := by decide +kernel
theorem dX9_ofWalker_85 : decode cX9_ofWalker 85 = .ok (.aload_n 3, 1) := by decide +kernel
theorem dX9_ofWalker_86 : decode cX9_ofWalker 86 = .ok (.getfield 247, 3) := by decide +kernel
theorem dX9_ofWalker_89 : decode cX9_ofWalker 89 = .ok (.invokevirtual 168, 3) := by decide +kernel
theorem dX9_ofWalker_92 : decode cX9_ofWalker 92 = .ok (.ireturn, 1) := by decide +kernel
theorem dX9_ofWalker_93 : decode cX9_ofWalker 93 = .ok (.aload_n 3, 1) := by decide +kernel
theorem dX9_ofWalker_94 : decode cX9_ofWalker 94 = .ok (.getfield 250, 3) := by decide +kernel
theorem dX9_ofWalker_97 : decode cX9_ofWalker 97 = .ok (.ireturn, 1) := by decide +kernel
theorem dX9_ofWalker_98 : decode cX9_ofWalker 98 = .ok (.aload_n 3, 1) := by decide +kernel
theorem dX9_ofWalker_99 : decode cX9_ofWalker 99 = .ok (.getfield 253, 3) := by decide +kernel
theorem dX9_ofWalker_102 : decode cX9_ofWalker 102 = .ok (.ireturn, 1) := by decide +kernel
theorem dX9_ofClaim_0 : decode cX9_ofClaim 0 = .ok (.aload_n 0, 1) := by decide +kernel
theorem dX9_ofClaim_1 : decode cX9_ofClaim 1 = .ok (.iload_n 1, 1) := by decide +kernel
theorem dX9_ofClaim_2 : decode cX9_ofClaim 2 = .ok (.invokevirtual 171, 3) := by decide +kernel
theorem dX9_ofClaim_5 : decode cX9_ofClaim 5 = .ok (.astore_n 3, 1) := by decide +kernel
theorem dX9_ofClaim_6 : decode cX9_ofClaim 6 = .ok (.iload_n 2, 1) := by decide +kernel
theorem dX9_ofClaim_7 : decode cX9_ofClaim 7 = .ok (.ifCond .lt 8, 3) := by decide +kernel
theorem dX9_ofClaim_10 : decode cX9_ofClaim 10 = .ok (.iload_n 2, 1) := by decide +kernel
theorem dX9_ofClaim_11 : decode cX9_ofClaim 11 = .ok (.iconst 5, 1) := by decide +kernel
theorem dX9_ofClaim_12 : decode cX9_ofClaim 12 = .ok (.if_icmp .lt 13, 3) := by decide +kernel
theorem dX9_ofClaim_15 : decode cX9_ofClaim 15 = .ok (.new 48, 3) := by decide +kernel
theorem dX9_ofClaim_18 : decode cX9_ofClaim 18 = .ok (.dup, 1) := by decide +kernel
theorem dX9_ofClaim_19 : decode cX9_ofClaim 19 = .ok (.ldc 242, 2) := by decide +kernel
theorem dX9_ofClaim_21 : decode cX9_ofClaim 21 = .ok (.invokespecial 52, 3) := by decide +kernel
theorem dX9_ofClaim_24 : decode cX9_ofClaim 24 = .ok (.athrow, 1) := by decide +kernel
theorem dX9_ofClaim_25 : decode cX9_ofClaim 25 = .ok (.iload_n 2, 1) := by decide +kernel
theorem dX9_ofClaim_26 : decode cX9_ofClaim 26 = .ok (.tableswitch 50 0 3 #[30, 35, 40, 45], 30) := by decide +kernel
theorem dX9_ofClaim_56 : decode cX9_ofClaim 56 = .ok (.aload_n 3, 1) := by decide +kernel
theorem dX9_ofClaim_57 : decode cX9_ofClaim 57 = .ok (.getfield 175, 3) := by decide +kernel
theorem dX9_ofClaim_60 : decode cX9_ofClaim 60 = .ok (.ireturn, 1) := by decide +kernel
theorem dX9_ofClaim_61 : decode cX9_ofClaim 61 = .ok (.aload_n 3, 1) := by decide +kernel
theorem dX9_ofClaim_62 : decode cX9_ofClaim 62 = .ok (.getfield 256, 3) := by decide +kernel
theorem dX9_ofClaim_65 : decode cX9_ofClaim 65 = .ok (.ireturn, 1) := by decide +kernel
theorem dX9_ofClaim_66 : decode cX9_ofClaim 66 = .ok (.aload_n 3, 1) := by decide +kernel
theorem dX9_ofClaim_67 : decode cX9_ofClaim 67 = .ok (.getfield 259, 3) := by decide +kernel
theorem dX9_ofClaim_70 : decode cX9_ofClaim 70 = .ok (.ireturn, 1) := by decide +kernel
theorem dX9_ofClaim_71 : decode cX9_ofClaim 71 = .ok (.aload_n 3, 1) := by decide +kernel
theorem dX9_ofClaim_72 : decode cX9_ofClaim 72 = .ok (.getfield 262, 3) := by decide +kernel
theorem dX9_ofClaim_75 : decode cX9_ofClaim 75 = .ok (.ireturn, 1) := by decide +kernel
theorem dX9_ofClaim_76 : decode cX9_ofClaim 76 = .ok (.aload_n 3, 1) := by decide +kernel
theorem dX9_ofClaim_77 : decode cX9_ofClaim 77 = .ok (.getfield 265, 3) := by decide +kernel
theorem dX9_ofClaim_80 : decode cX9_ofClaim 80 = .ok (.ireturn, 1) := by decide +kernel
theorem dX9_many_0 : decode cX9_many 0 = .ok (.iload_n 1, 1) := by decide +kernel
theorem dX9_many_1 : decode cX9_many 1 = .ok (.ifCond .lt 9, 3) := by decide +kernel
theorem dX9_many_4 : decode cX9_many 4 = .ok (.iload_n 1, 1) := by decide +kernel
theorem dX9_many_5 : decode cX9_many 5 = .ok (.bipush 7, 2) := by decide +kernel
theorem dX9_many_7 : decode cX9_many 7 = .ok (.if_icmp .lt 14, 3) := by decide +kernel
theorem dX9_many_10 : decode cX9_many 10 = .ok (.new 48, 3) := by decide +kernel
theorem dX9_many_13 : decode cX9_many 13 = .ok (.dup, 1) := by decide +kernel
theorem dX9_many_14 : decode cX9_many 14 = .ok (.ldc_w 268, 3) := by decide +kernel
theorem dX9_many_17 : decode cX9_many 17 = .ok (.invokespecial 52, 3) := by decide +kernel
theorem dX9_many_20 : decode cX9_many 20 = .ok (.athrow, 1) := by decide +kernel
theorem dX9_many_21 : decode cX9_many 21 = .ok (.iload_n 1, 1) := by decide +kernel
theorem dX9_many_22 : decode cX9_many 22 = .ok (.tableswitch 71 0 5 #[38, 46, 51, 56, 61, 66], 38) := by decide +kernel
theorem dX9_many_60 : decode cX9_many 60 = .ok (.aload_n 0, 1) := by decide +kernel
theorem dX9_many_61 : decode cX9_many 61 = .ok (.getfield 44, 3) := by decide +kernel
theorem dX9_many_64 : decode cX9_many 64 = .ok (.getfield 200, 3) := by decide +kernel
theorem dX9_many_67 : decode cX9_many 67 = .ok (.ireturn, 1) := by decide +kernel
theorem dX9_many_68 : decode cX9_many 68 = .ok (.aload_n 0, 1) := by decide +kernel
theorem dX9_many_69 : decode cX9_many 69 = .ok (.getfield 63, 3) := by decide +kernel
theorem dX9_many_72 : decode cX9_many 72 = .ok (.ireturn, 1) := by decide +kernel
theorem dX9_many_73 : decode cX9_many 73 = .ok (.aload_n 0, 1) := by decide +kernel
theorem dX9_many_74 : decode cX9_many 74 = .ok (.getfield 55, 3) := by decide +kernel
theorem dX9_many_77 : decode cX9_many 77 = .ok (.ireturn, 1) := by decide +kernel
theorem dX9_many_78 : decode cX9_many 78 = .ok (.aload_n 0, 1) := by decide +kernel
theorem dX9_many_79 : decode cX9_many 79 = .ok (.getfield 123, 3) := by decide +kernel
theorem dX9_many_82 : decode cX9_many 82 = .ok (.ireturn, 1) := by decide +kernel
theorem dX9_many_83 : decode cX9_many 83 = .ok (.aload_n 0, 1) := by decide +kernel
theorem dX9_many_84 : decode cX9_many 84 = .ok (.invokevirtual 270, 3) := by decide +kernel
theorem dX9_many_87 : decode cX9_many 87 = .ok (.ireturn, 1) := by decide +kernel
theorem dX9_many_88 : decode cX9_many 88 = .ok (.aload_n 0, 1) := by decide +kernel
theorem dX9_many_89 : decode cX9_many 89 = .ok (.getfield 165, 3) := by decide +kernel
theorem dX9_many_92 : decode cX9_many 92 = .ok (.ireturn, 1) := by decide +kernel
theorem dX9_many_93 : decode cX9_many 93 = .ok (.aload_n 0, 1) := by decide +kernel
theorem dX9_many_94 : decode cX9_many 94 = .ok (.getfield 274, 3) := by decide +kernel
theorem dX9_many_97 : decode cX9_many 97 = .ok (.ireturn, 1) := by decide +kernel
theorem dX9_mean_0 : decode cX9_mean 0 = .ok (.iload_n 1, 1) := by decide +kernel
theorem dX9_mean_1 : decode cX9_mean 1 = .ok (.invokestatic 106, 3) := by decide +kernel
theorem dX9_mean_4 : decode cX9_mean 4 = .ok (.iload_n 2, 1) := by decide +kernel
theorem dX9_mean_5 : decode cX9_mean 5 = .ok (.invokestatic 120, 3) := by decide +kernel
theorem dX9_mean_8 : decode cX9_mean 8 = .ok (.iconst 0, 1) := by decide +kernel
theorem dX9_mean_9 : decode cX9_mean 9 = .ok (.istore_n 3, 1) := by decide +kernel
theorem dX9_mean_10 : decode cX9_mean 10 = .ok (.iconst 0, 1) := by decide +kernel
theorem dX9_mean_11 : decode cX9_mean 11 = .ok (.istore 4, 2) := by decide +kernel
theorem dX9_mean_13 : decode cX9_mean 13 = .ok (.iload 4, 2) := by decide +kernel
theorem dX9_mean_15 : decode cX9_mean 15 = .ok (.bipush 36, 2) := by decide +kernel
theorem dX9_mean_17 : decode cX9_mean 17 = .ok (.if_icmp .gt 26, 3) := by decide +kernel
theorem dX9_mean_20 : decode cX9_mean 20 = .ok (.iload_n 3, 1) := by decide +kernel
theorem dX9_mean_21 : decode cX9_mean 21 = .ok (.iload 4, 2) := by decide +kernel
theorem dX9_mean_23 : decode cX9_mean 23 = .ok (.aload_n 0, 1) := by decide +kernel
theorem dX9_mean_24 : decode cX9_mean 24 = .ok (.getfield 44, 3) := by decide +kernel
theorem dX9_mean_27 : decode cX9_mean 27 = .ok (.iload_n 1, 1) := by decide +kernel
theorem dX9_mean_28 : decode cX9_mean 28 = .ok (.iload_n 2, 1) := by decide +kernel
theorem dX9_mean_29 : decode cX9_mean 29 = .ok (.iload 4, 2) := by decide +kernel
theorem dX9_mean_31 : decode cX9_mean 31 = .ok (.invokevirtual 189, 3) := by decide +kernel
theorem dX9_mean_34 : decode cX9_mean 34 = .ok (.imul, 1) := by decide +kernel
theorem dX9_mean_35 : decode cX9_mean 35 = .ok (.iadd, 1) := by decide +kernel
theorem dX9_mean_36 : decode cX9_mean 36 = .ok (.istore_n 3, 1) := by decide +kernel
theorem dX9_mean_37 : decode cX9_mean 37 = .ok (.iinc 4 1, 3) := by decide +kernel
theorem dX9_mean_40 : decode cX9_mean 40 = .ok (.goto (-27), 3) := by decide +kernel
theorem dX9_mean_43 : decode cX9_mean 43 = .ok (.aload_n 0, 1) := by decide +kernel
theorem dX9_mean_44 : decode cX9_mean 44 = .ok (.getfield 44, 3) := by decide +kernel
theorem dX9_mean_47 : decode cX9_mean 47 = .ok (.iload_n 1, 1) := by decide +kernel
theorem dX9_mean_48 : decode cX9_mean 48 = .ok (.invokevirtual 178, 3) := by decide +kernel
theorem dX9_mean_51 : decode cX9_mean 51 = .ok (.istore 4, 2) := by decide +kernel
theorem dX9_mean_53 : decode cX9_mean 53 = .ok (.iload 4, 2) := by decide +kernel
theorem dX9_mean_55 : decode cX9_mean 55 = .ok (.ifCond .le 12, 3) := by decide +kernel
theorem dX9_mean_58 : decode cX9_mean 58 = .ok (.iload_n 3, 1) := by decide +kernel
theorem dX9_mean_59 : decode cX9_mean 59 = .ok (.i2d, 1) := by decide +kernel
theorem dX9_mean_60 : decode cX9_mean 60 = .ok (.iload 4, 2) := by decide +kernel
theorem dX9_mean_62 : decode cX9_mean 62 = .ok (.i2d, 1) := by decide +kernel
theorem dX9_mean_63 : decode cX9_mean 63 = .ok (.ddiv, 1) := by decide +kernel
theorem dX9_mean_64 : decode cX9_mean 64 = .ok (.goto 4, 3) := by decide +kernel
theorem dX9_mean_67 : decode cX9_mean 67 = .ok (.dconst 0, 1) := by decide +kernel
theorem dX9_mean_68 : decode cX9_mean 68 = .ok (.dreturn, 1) := by decide +kernel
theorem dX9_digest_0 : decode cX9_digest 0 = .ok (.aload_n 0, 1) := by decide +kernel
theorem dX9_digest_1 : decode cX9_digest 1 = .ok (.ldc2_w 277, 3) := by decide +kernel
theorem dX9_digest_4 : decode cX9_digest 4 = .ok (.invokevirtual 279, 3) := by decide +kernel
theorem dX9_digest_7 : decode cX9_digest 7 = .ok (.lstore_n 1, 1) := by decide +kernel
theorem dX9_digest_8 : decode cX9_digest 8 = .ok (.iconst 0, 1) := by decide +kernel
theorem dX9_digest_9 : decode cX9_digest 9 = .ok (.istore_n 3, 1) := by decide +kernel
theorem dX9_digest_10 : decode cX9_digest 10 = .ok (.iload_n 3, 1) := by decide +kernel
theorem dX9_digest_11 : decode cX9_digest 11 = .ok (.aload_n 0, 1) := by decide +kernel
theorem dX9_digest_12 : decode cX9_digest 12 = .ok (.getfield 63, 3) := by decide +kernel
theorem dX9_digest_15 : decode cX9_digest 15 = .ok (.if_icmp .ge 16, 3) := by decide +kernel
theorem dX9_digest_18 : decode cX9_digest 18 = .ok (.aload_n 0, 1) := by decide +kernel
theorem dX9_digest_19 : decode cX9_digest 19 = .ok (.lload_n 1, 1) := by decide +kernel
theorem dX9_digest_20 : decode cX9_digest 20 = .ok (.iload_n 3, 1) := by decide +kernel
theorem dX9_digest_21 : decode cX9_digest 21 = .ok (.invokevirtual 283, 3) := by decide +kernel
theorem dX9_digest_24 : decode cX9_digest 24 = .ok (.lstore_n 1, 1) := by decide +kernel
theorem dX9_digest_25 : decode cX9_digest 25 = .ok (.iinc 3 1, 3) := by decide +kernel
theorem dX9_digest_28 : decode cX9_digest 28 = .ok (.goto (-18), 3) := by decide +kernel
theorem dX9_digest_31 : decode cX9_digest 31 = .ok (.iconst 0, 1) := by decide +kernel
theorem dX9_digest_32 : decode cX9_digest 32 = .ok (.istore_n 3, 1) := by decide +kernel
theorem dX9_digest_33 : decode cX9_digest 33 = .ok (.iload_n 3, 1) := by decide +kernel
theorem dX9_digest_34 : decode cX9_digest 34 = .ok (.aload_n 0, 1) := by decide +kernel
theorem dX9_digest_35 : decode cX9_digest 35 = .ok (.getfield 55, 3) := by decide +kernel
theorem dX9_digest_38 : decode cX9_digest 38 = .ok (.if_icmp .ge 39, 3) := by decide +kernel
theorem dX9_digest_41 : decode cX9_digest 41 = .ok (.iconst 0, 1) := by decide +kernel
theorem dX9_digest_42 : decode cX9_digest 42 = .ok (.istore 4, 2) := by decide +kernel
theorem dX9_digest_44 : decode cX9_digest 44 = .ok (.iload 4, 2) := by decide +kernel
theorem dX9_digest_46 : decode cX9_digest 46 = .ok (.iconst 5, 1) := by decide +kernel
theorem dX9_digest_47 : decode cX9_digest 47 = .ok (.if_icmp .ge 24, 3) := by decide +kernel
theorem dX9_digest_50 : decode cX9_digest 50 = .ok (.lload_n 1, 1) := by decide +kernel
theorem dX9_digest_51 : decode cX9_digest 51 = .ok (.ldc2_w 287, 3) := by decide +kernel
theorem dX9_digest_54 : decode cX9_digest 54 = .ok (.lmul, 1) := by decide +kernel
theorem dX9_digest_55 : decode cX9_digest 55 = .ok (.aload_n 0, 1) := by decide +kernel
theorem dX9_digest_56 : decode cX9_digest 56 = .ok (.iload_n 3, 1) := by decide +kernel
theorem dX9_digest_57 : decode cX9_digest 57 = .ok (.iload 4, 2) := by decide +kernel
theorem dX9_digest_59 : decode cX9_digest 59 = .ok (.invokevirtual 289, 3) := by decide +kernel
theorem dX9_digest_62 : decode cX9_digest 62 = .ok (.i2l, 1) := by decide +kernel
theorem dX9_digest_63 : decode cX9_digest 63 = .ok (.ladd, 1) := by decide +kernel
theorem dX9_digest_64 : decode cX9_digest 64 = .ok (.lstore_n 1, 1) := by decide +kernel
theorem dX9_digest_65 : decode cX9_digest 65 = .ok (.iinc 4 1, 3) := by decide +kernel
theorem dX9_digest_68 : decode cX9_digest 68 = .ok (.goto (-24), 3) := by decide +kernel
theorem dX9_digest_71 : decode cX9_digest 71 = .ok (.iinc 3 1, 3) := by decide +kernel
theorem dX9_digest_74 : decode cX9_digest 74 = .ok (.goto (-41), 3) := by decide +kernel
theorem dX9_digest_77 : decode cX9_digest 77 = .ok (.iconst 0, 1) := by decide +kernel
theorem dX9_digest_78 : decode cX9_digest 78 = .ok (.istore_n 3, 1) := by decide +kernel
theorem dX9_digest_79 : decode cX9_digest 79 = .ok (.iload_n 3, 1) := by decide +kernel
theorem dX9_digest_80 : decode cX9_digest 80 = .ok (.aload_n 0, 1) := by decide +kernel
theorem dX9_digest_81 : decode cX9_digest 81 = .ok (.getfield 123, 3) := by decide +kernel
theorem dX9_digest_84 : decode cX9_digest 84 = .ok (.if_icmp .ge 39, 3) := by decide +kernel
theorem dX9_digest_87 : decode cX9_digest 87 = .ok (.iconst 0, 1) := by decide +kernel
theorem dX9_digest_88 : decode cX9_digest 88 = .ok (.istore 4, 2) := by decide +kernel
theorem dX9_digest_90 : decode cX9_digest 90 = .ok (.iload 4, 2) := by decide +kernel
theorem dX9_digest_92 : decode cX9_digest 92 = .ok (.iconst 5, 1) := by decide +kernel
theorem dX9_digest_93 : decode cX9_digest 93 = .ok (.if_icmp .ge 24, 3) := by decide +kernel
theorem dX9_digest_96 : decode cX9_digest 96 = .ok (.lload_n 1, 1) := by decide +kernel
theorem dX9_digest_97 : decode cX9_digest 97 = .ok (.ldc2_w 287, 3) := by decide +kernel
theorem dX9_digest_100 : decode cX9_digest 100 = .ok (.lmul, 1) := by decide +kernel
theorem dX9_digest_101 : decode cX9_digest 101 = .ok (.aload_n 0, 1) := by decide +kernel
theorem dX9_digest_102 : decode cX9_digest 102 = .ok (.iload_n 3, 1) := by decide +kernel
theorem dX9_digest_103 : decode cX9_digest 103 = .ok (.iload 4, 2) := by decide +kernel
theorem dX9_digest_105 : decode cX9_digest 105 = .ok (.invokevirtual 292, 3) := by decide +kernel
theorem dX9_digest_108 : decode cX9_digest 108 = .ok (.i2l, 1) := by decide +kernel
theorem dX9_digest_109 : decode cX9_digest 109 = .ok (.ladd, 1) := by decide +kernel
theorem dX9_digest_110 : decode cX9_digest 110 = .ok (.lstore_n 1, 1) := by decide +kernel
theorem dX9_digest_111 : decode cX9_digest 111 = .ok (.iinc 4 1, 3) := by decide +kernel
theorem dX9_digest_114 : decode cX9_digest 114 = .ok (.goto (-24), 3) := by decide +kernel
theorem dX9_digest_117 : decode cX9_digest 117 = .ok (.iinc 3 1, 3) := by decide +kernel
theorem dX9_digest_120 : decode cX9_digest 120 = .ok (.goto (-41), 3) := by decide +kernel
theorem dX9_digest_123 : decode cX9_digest 123 = .ok (.lload_n 1, 1) := by decide +kernel
theorem dX9_digest_124 : decode cX9_digest 124 = .ok (.ldc2_w 287, 3) := by decide +kernel
theorem dX9_digest_127 : decode cX9_digest 127 = .ok (.lmul, 1) := by decide +kernel
theorem dX9_digest_128 : decode cX9_digest 128 = .ok (.aload_n 0, 1) := by decide +kernel
theorem dX9_digest_129 : decode cX9_digest 129 = .ok (.iconst 1, 1) := by decide +kernel
theorem dX9_digest_130 : decode cX9_digest 130 = .ok (.invokevirtual 295, 3) := by decide +kernel
theorem dX9_digest_133 : decode cX9_digest 133 = .ok (.i2l, 1) := by decide +kernel
theorem dX9_digest_134 : decode cX9_digest 134 = .ok (.ladd, 1) := by decide +kernel
theorem dX9_digest_135 : decode cX9_digest 135 = .ok (.lreturn, 1) := by decide +kernel
theorem dX9_digestOfObjects_0 : decode cX9_digestOfObjects 0 = .ok (.lload_n 1, 1) := by decide +kernel
theorem dX9_digestOfObjects_1 : decode cX9_digestOfObjects 1 = .ok (.lstore_n 3, 1) := by decide +kernel
theorem dX9_digestOfObjects_2 : decode cX9_digestOfObjects 2 = .ok (.iconst 0, 1) := by decide +kernel
theorem dX9_digestOfObjects_3 : decode cX9_digestOfObjects 3 = .ok (.istore 5, 2) := by decide +kernel
theorem dX9_digestOfObjects_5 : decode cX9_digestOfObjects 5 = .ok (.iload 5, 2) := by decide +kernel
theorem dX9_digestOfObjects_7 : decode cX9_digestOfObjects 7 = .ok (.bipush 7, 2) := by decide +kernel
theorem dX9_digestOfObjects_9 : decode cX9_digestOfObjects 9 = .ok (.if_icmp .ge 23, 3) := by decide +kernel
theorem dX9_digestOfObjects_12 : decode cX9_digestOfObjects 12 = .ok (.lload_n 3, 1) := by decide +kernel
theorem dX9_digestOfObjects_13 : decode cX9_digestOfObjects 13 = .ok (.ldc2_w 287, 3) := by decide +kernel
theorem dX9_digestOfObjects_16 : decode cX9_digestOfObjects 16 = .ok (.lmul, 1) := by decide +kernel
theorem dX9_digestOfObjects_17 : decode cX9_digestOfObjects 17 = .ok (.aload_n 0, 1) := by decide +kernel
theorem dX9_digestOfObjects_18 : decode cX9_digestOfObjects 18 = .ok (.iload 5, 2) := by decide +kernel
theorem dX9_digestOfObjects_20 : decode cX9_digestOfObjects 20 = .ok (.invokevirtual 298, 3) := by decide +kernel
theorem dX9_digestOfObjects_23 : decode cX9_digestOfObjects 23 = .ok (.i2l, 1) := by decide +kernel
theorem dX9_digestOfObjects_24 : decode cX9_digestOfObjects 24 = .ok (.ladd, 1) := by decide +kernel
theorem dX9_digestOfObjects_25 : decode cX9_digestOfObjects 25 = .ok (.lstore_n 3, 1) := by decide +kernel
theorem dX9_digestOfObjects_26 : decode cX9_digestOfObjects 26 = .ok (.iinc 5 1, 3) := by decide +kernel
theorem dX9_digestOfObjects_29 : decode cX9_digestOfObjects 29 = .ok (.goto (-24), 3) := by decide +kernel
theorem dX9_digestOfObjects_32 : decode cX9_digestOfObjects 32 = .ok (.iconst 0, 1) := by decide +kernel
theorem dX9_digestOfObjects_33 : decode cX9_digestOfObjects 33 = .ok (.istore 5, 2) := by decide +kernel
theorem dX9_digestOfObjects_35 : decode cX9_digestOfObjects 35 = .ok (.iload 5, 2) := by decide +kernel
theorem dX9_digestOfObjects_37 : decode cX9_digestOfObjects 37 = .ok (.iconst 3, 1) := by decide +kernel
theorem dX9_digestOfObjects_38 : decode cX9_digestOfObjects 38 = .ok (.if_icmp .ge 54, 3) := by decide +kernel
theorem dX9_digestOfObjects_41 : decode cX9_digestOfObjects 41 = .ok (.lload_n 3, 1) := by decide +kernel
theorem dX9_digestOfObjects_42 : decode cX9_digestOfObjects 42 = .ok (.ldc2_w 287, 3) := by decide +kernel
theorem dX9_digestOfObjects_45 : decode cX9_digestOfObjects 45 = .ok (.lmul, 1) := by decide +kernel
theorem dX9_digestOfObjects_46 : decode cX9_digestOfObjects 46 = .ok (.aload_n 0, 1) := by decide +kernel
theorem dX9_digestOfObjects_47 : decode cX9_digestOfObjects 47 = .ok (.iload 5, 2) := by decide +kernel
theorem dX9_digestOfObjects_49 : decode cX9_digestOfObjects 49 = .ok (.invokevirtual 301, 3) := by decide +kernel
theorem dX9_digestOfObjects_52 : decode cX9_digestOfObjects 52 = .ok (.i2l, 1) := by decide +kernel
theorem dX9_digestOfObjects_53 : decode cX9_digestOfObjects 53 = .ok (.ladd, 1) := by decide +kernel
theorem dX9_digestOfObjects_54 : decode cX9_digestOfObjects 54 = .ok (.lstore_n 3, 1) := by decide +kernel
theorem dX9_digestOfObjects_55 : decode cX9_digestOfObjects 55 = .ok (.iconst 0, 1) := by decide +kernel
theorem dX9_digestOfObjects_56 : decode cX9_digestOfObjects 56 = .ok (.istore 6, 2) := by decide +kernel
theorem dX9_digestOfObjects_58 : decode cX9_digestOfObjects 58 = .ok (.iload 6, 2) := by decide +kernel
theorem dX9_digestOfObjects_60 : decode cX9_digestOfObjects 60 = .ok (.iconst 4, 1) := by decide +kernel
theorem dX9_digestOfObjects_61 : decode cX9_digestOfObjects 61 = .ok (.if_icmp .ge 25, 3) := by decide +kernel
theorem dX9_digestOfObjects_64 : decode cX9_digestOfObjects 64 = .ok (.lload_n 3, 1) := by decide +kernel
theorem dX9_digestOfObjects_65 : decode cX9_digestOfObjects 65 = .ok (.ldc2_w 287, 3) := by decide +kernel
theorem dX9_digestOfObjects_68 : decode cX9_digestOfObjects 68 = .ok (.lmul, 1) := by decide +kernel
theorem dX9_digestOfObjects_69 : decode cX9_digestOfObjects 69 = .ok (.aload_n 0, 1) := by decide +kernel
theorem dX9_digestOfObjects_70 : decode cX9_digestOfObjects 70 = .ok (.iload 5, 2) := by decide +kernel
theorem dX9_digestOfObjects_72 : decode cX9_digestOfObjects 72 = .ok (.iload 6, 2) := by decide +kernel
theorem dX9_digestOfObjects_74 : decode cX9_digestOfObjects 74 = .ok (.invokevirtual 304, 3) := by decide +kernel
theorem dX9_digestOfObjects_77 : decode cX9_digestOfObjects 77 = .ok (.i2l, 1) := by decide +kernel
theorem dX9_digestOfObjects_78 : decode cX9_digestOfObjects 78 = .ok (.ladd, 1) := by decide +kernel
theorem dX9_digestOfObjects_79 : decode cX9_digestOfObjects 79 = .ok (.lstore_n 3, 1) := by decide +kernel
theorem dX9_digestOfObjects_80 : decode cX9_digestOfObjects 80 = .ok (.iinc 6 1, 3) := by decide +kernel
theorem dX9_digestOfObjects_83 : decode cX9_digestOfObjects 83 = .ok (.goto (-25), 3) := by decide +kernel
theorem dX9_digestOfObjects_86 : decode cX9_digestOfObjects 86 = .ok (.iinc 5 1, 3) := by decide +kernel
theorem dX9_digestOfObjects_89 : decode cX9_digestOfObjects 89 = .ok (.goto (-54), 3) := by decide +kernel
theorem dX9_digestOfObjects_92 : decode cX9_digestOfObjects 92 = .ok (.lload_n 3, 1) := by decide +kernel
theorem dX9_digestOfObjects_93 : decode cX9_digestOfObjects 93 = .ok (.lreturn, 1) := by decide +kernel
theorem dX9_digestOfMap_0 : decode cX9_digestOfMap 0 = .ok (.lload_n 1, 1) := by decide +kernel
theorem dX9_digestOfMap_1 : decode cX9_digestOfMap 1 = .ok (.lstore 4, 2) := by decide +kernel
theorem dX9_digestOfMap_3 : decode cX9_digestOfMap 3 = .ok (.iconst 0, 1) := by decide +kernel
theorem dX9_digestOfMap_4 : decode cX9_digestOfMap 4 = .ok (.istore 6, 2) := by decide +kernel
theorem dX9_digestOfMap_6 : decode cX9_digestOfMap 6 = .ok (.iload 6, 2) := by decide +kernel
theorem dX9_digestOfMap_8 : decode cX9_digestOfMap 8 = .ok (.bipush 8, 2) := by decide +kernel
theorem dX9_digestOfMap_10 : decode cX9_digestOfMap 10 = .ok (.if_icmp .ge 26, 3) := by decide +kernel
theorem dX9_digestOfMap_13 : decode cX9_digestOfMap 13 = .ok (.lload 4, 2) := by decide +kernel
theorem dX9_digestOfMap_15 : decode cX9_digestOfMap 15 = .ok (.ldc2_w 287, 3) := by decide +kernel
theorem dX9_digestOfMap_18 : decode cX9_digestOfMap 18 = .ok (.lmul, 1) := by decide +kernel
theorem dX9_digestOfMap_19 : decode cX9_digestOfMap 19 = .ok (.aload_n 0, 1) := by decide +kernel
theorem dX9_digestOfMap_20 : decode cX9_digestOfMap 20 = .ok (.iload_n 3, 1) := by decide +kernel
theorem dX9_digestOfMap_21 : decode cX9_digestOfMap 21 = .ok (.iload 6, 2) := by decide +kernel
theorem dX9_digestOfMap_23 : decode cX9_digestOfMap 23 = .ok (.invokevirtual 307, 3) := by decide +kernel
theorem dX9_digestOfMap_26 : decode cX9_digestOfMap 26 = .ok (.i2l, 1) := by decide +kernel
theorem dX9_digestOfMap_27 : decode cX9_digestOfMap 27 = .ok (.ladd, 1) := by decide +kernel
theorem dX9_digestOfMap_28 : decode cX9_digestOfMap 28 = .ok (.lstore 4, 2) := by decide +kernel
theorem dX9_digestOfMap_30 : decode cX9_digestOfMap 30 = .ok (.iinc 6 1, 3) := by decide +kernel
theorem dX9_digestOfMap_33 : decode cX9_digestOfMap 33 = .ok (.goto (-27), 3) := by decide +kernel
theorem dX9_digestOfMap_36 : decode cX9_digestOfMap 36 = .ok (.lload 4, 2) := by decide +kernel
theorem dX9_digestOfMap_38 : decode cX9_digestOfMap 38 = .ok (.ldc2_w 287, 3) := by decide +kernel
theorem dX9_digestOfMap_41 : decode cX9_digestOfMap 41 = .ok (.lmul, 1) := by decide +kernel
theorem dX9_digestOfMap_42 : decode cX9_digestOfMap 42 = .ok (.aload_n 0, 1) := by decide +kernel
theorem dX9_digestOfMap_43 : decode cX9_digestOfMap 43 = .ok (.iload_n 3, 1) := by decide +kernel
theorem dX9_digestOfMap_44 : decode cX9_digestOfMap 44 = .ok (.iconst 0, 1) := by decide +kernel
theorem dX9_digestOfMap_45 : decode cX9_digestOfMap 45 = .ok (.invokevirtual 310, 3) := by decide +kernel
theorem dX9_digestOfMap_48 : decode cX9_digestOfMap 48 = .ok (.i2l, 1) := by decide +kernel
theorem dX9_digestOfMap_49 : decode cX9_digestOfMap 49 = .ok (.ladd, 1) := by decide +kernel
theorem dX9_digestOfMap_50 : decode cX9_digestOfMap 50 = .ok (.lstore 4, 2) := by decide +kernel
theorem dX9_digestOfMap_52 : decode cX9_digestOfMap 52 = .ok (.lload 4, 2) := by decide +kernel
theorem dX9_digestOfMap_54 : decode cX9_digestOfMap 54 = .ok (.ldc2_w 287, 3) := by decide +kernel
theorem dX9_digestOfMap_57 : decode cX9_digestOfMap 57 = .ok (.lmul, 1) := by decide +kernel
theorem dX9_digestOfMap_58 : decode cX9_digestOfMap 58 = .ok (.aload_n 0, 1) := by decide +kernel
theorem dX9_digestOfMap_59 : decode cX9_digestOfMap 59 = .ok (.iload_n 3, 1) := by decide +kernel
theorem dX9_digestOfMap_60 : decode cX9_digestOfMap 60 = .ok (.invokevirtual 313, 3) := by decide +kernel
theorem dX9_digestOfMap_63 : decode cX9_digestOfMap 63 = .ok (.i2l, 1) := by decide +kernel
theorem dX9_digestOfMap_64 : decode cX9_digestOfMap 64 = .ok (.ladd, 1) := by decide +kernel
theorem dX9_digestOfMap_65 : decode cX9_digestOfMap 65 = .ok (.lstore 4, 2) := by decide +kernel
theorem dX9_digestOfMap_67 : decode cX9_digestOfMap 67 = .ok (.lload 4, 2) := by decide +kernel
theorem dX9_digestOfMap_69 : decode cX9_digestOfMap 69 = .ok (.ldc2_w 287, 3) := by decide +kernel
theorem dX9_digestOfMap_72 : decode cX9_digestOfMap 72 = .ok (.lmul, 1) := by decide +kernel
theorem dX9_digestOfMap_73 : decode cX9_digestOfMap 73 = .ok (.aload_n 0, 1) := by decide +kernel
theorem dX9_digestOfMap_74 : decode cX9_digestOfMap 74 = .ok (.iload_n 3, 1) := by decide +kernel
theorem dX9_digestOfMap_75 : decode cX9_digestOfMap 75 = .ok (.invokevirtual 315, 3) := by decide +kernel
theorem dX9_digestOfMap_78 : decode cX9_digestOfMap 78 = .ok (.ladd, 1) := by decide +kernel
theorem dX9_digestOfMap_79 : decode cX9_digestOfMap 79 = .ok (.lstore 4, 2) := by decide +kernel
theorem dX9_digestOfMap_81 : decode cX9_digestOfMap 81 = .ok (.lload 4, 2) := by decide +kernel
theorem dX9_digestOfMap_83 : decode cX9_digestOfMap 83 = .ok (.ldc2_w 287, 3) := by decide +kernel
theorem dX9_digestOfMap_86 : decode cX9_digestOfMap 86 = .ok (.lmul, 1) := by decide +kernel
theorem dX9_digestOfMap_87 : decode cX9_digestOfMap 87 = .ok (.aload_n 0, 1) := by decide +kernel
theorem dX9_digestOfMap_88 : decode cX9_digestOfMap 88 = .ok (.iload_n 3, 1) := by decide +kernel
theorem dX9_digestOfMap_89 : decode cX9_digestOfMap 89 = .ok (.iconst 0, 1) := by decide +kernel
theorem dX9_digestOfMap_90 : decode cX9_digestOfMap 90 = .ok (.iconst 0, 1) := by decide +kernel
theorem dX9_digestOfMap_91 : decode cX9_digestOfMap 91 = .ok (.invokevirtual 318, 3) := by decide +kernel
theorem dX9_digestOfMap_94 : decode cX9_digestOfMap 94 = .ok (.i2l, 1) := by decide +kernel
