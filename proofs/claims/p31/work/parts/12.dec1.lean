theorem dX6_take_32 : decode cX6_take 32 = .ok (.iload 4, 2) := by decide +kernel
theorem dX6_take_34 : decode cX6_take 34 = .ok (.iload_n 3, 1) := by decide +kernel
theorem dX6_take_35 : decode cX6_take 35 = .ok (.if_icmp .ge 25, 3) := by decide +kernel
theorem dX6_take_38 : decode cX6_take 38 = .ok (.aload_n 0, 1) := by decide +kernel
theorem dX6_take_39 : decode cX6_take 39 = .ok (.getfield 25, 3) := by decide +kernel
theorem dX6_take_42 : decode cX6_take 42 = .ok (.iload 4, 2) := by decide +kernel
theorem dX6_take_44 : decode cX6_take 44 = .ok (.aload_n 2, 1) := by decide +kernel
theorem dX6_take_45 : decode cX6_take 45 = .ok (.aload_n 1, 1) := by decide +kernel
theorem dX6_take_46 : decode cX6_take 46 = .ok (.iload 4, 2) := by decide +kernel
theorem dX6_take_48 : decode cX6_take 48 = .ok (.invokevirtual 52, 3) := by decide +kernel
theorem dX6_take_51 : decode cX6_take 51 = .ok (.invokestatic 56, 3) := by decide +kernel
theorem dX6_take_54 : decode cX6_take 54 = .ok (.iinc 4 1, 3) := by decide +kernel
theorem dX6_take_57 : decode cX6_take 57 = .ok (.goto (-25), 3) := by decide +kernel
theorem dX6_take_60 : decode cX6_take 60 = .ok (.aload_n 1, 1) := by decide +kernel
theorem dX6_take_61 : decode cX6_take 61 = .ok (.aload_n 0, 1) := by decide +kernel
theorem dX6_take_62 : decode cX6_take 62 = .ok (.iload_n 3, 1) := by decide +kernel
theorem dX6_take_63 : decode cX6_take 63 = .ok (.invokevirtual 60, 3) := by decide +kernel
theorem dX6_take_66 : decode cX6_take 66 = .ok (.putfield 63, 3) := by decide +kernel
theorem dX6_take_69 : decode cX6_take 69 = .ok (.aload_n 1, 1) := by decide +kernel
theorem dX6_take_70 : decode cX6_take 70 = .ok (.aload_n 1, 1) := by decide +kernel
theorem dX6_take_71 : decode cX6_take 71 = .ok (.invokevirtual 66, 3) := by decide +kernel
theorem dX6_take_74 : decode cX6_take 74 = .ok (.ifCond .eq 11, 3) := by decide +kernel
theorem dX6_take_77 : decode cX6_take 77 = .ok (.aload_n 0, 1) := by decide +kernel
theorem dX6_take_78 : decode cX6_take 78 = .ok (.iload_n 3, 1) := by decide +kernel
theorem dX6_take_79 : decode cX6_take 79 = .ok (.invokevirtual 70, 3) := by decide +kernel
theorem dX6_take_82 : decode cX6_take 82 = .ok (.goto 4, 3) := by decide +kernel
theorem dX6_take_85 : decode cX6_take 85 = .ok (.iconst (-1), 1) := by decide +kernel
theorem dX6_take_86 : decode cX6_take 86 = .ok (.putfield 73, 3) := by decide +kernel
theorem dX6_take_89 : decode cX6_take 89 = .ok (.aload_n 1, 1) := by decide +kernel
theorem dX6_take_90 : decode cX6_take 90 = .ok (.iconst (-1), 1) := by decide +kernel
theorem dX6_take_91 : decode cX6_take 91 = .ok (.putfield 76, 3) := by decide +kernel
theorem dX6_take_94 : decode cX6_take 94 = .ok (.aload_n 1, 1) := by decide +kernel
theorem dX6_take_95 : decode cX6_take 95 = .ok (.ldc2_w 79, 3) := by decide +kernel
theorem dX6_take_98 : decode cX6_take 98 = .ok (.putfield 81, 3) := by decide +kernel
theorem dX6_take_101 : decode cX6_take 101 = .ok (.aload_n 1, 1) := by decide +kernel
theorem dX6_take_102 : decode cX6_take 102 = .ok (.invokevirtual 66, 3) := by decide +kernel
theorem dX6_take_105 : decode cX6_take 105 = .ok (.ifCond .eq 17, 3) := by decide +kernel
theorem dX6_take_108 : decode cX6_take 108 = .ok (.aload_n 1, 1) := by decide +kernel
theorem dX6_take_109 : decode cX6_take 109 = .ok (.getfield 63, 3) := by decide +kernel
theorem dX6_take_112 : decode cX6_take 112 = .ok (.iload_n 3, 1) := by decide +kernel
theorem dX6_take_113 : decode cX6_take 113 = .ok (.if_icmp .ne 9, 3) := by decide +kernel
theorem dX6_take_116 : decode cX6_take 116 = .ok (.aload_n 0, 1) := by decide +kernel
theorem dX6_take_117 : decode cX6_take 117 = .ok (.aload_n 1, 1) := by decide +kernel
theorem dX6_take_118 : decode cX6_take 118 = .ok (.iload_n 3, 1) := by decide +kernel
theorem dX6_take_119 : decode cX6_take 119 = .ok (.invokevirtual 85, 3) := by decide +kernel
theorem dX6_take_122 : decode cX6_take 122 = .ok (.return_, 1) := by decide +kernel
theorem dX6_countDistinct_0 : decode cX6_countDistinct 0 = .ok (.aload_n 0, 1) := by decide +kernel
theorem dX6_countDistinct_1 : decode cX6_countDistinct 1 = .ok (.invokevirtual 89, 3) := by decide +kernel
theorem dX6_countDistinct_4 : decode cX6_countDistinct 4 = .ok (.iconst 0, 1) := by decide +kernel
theorem dX6_countDistinct_5 : decode cX6_countDistinct 5 = .ok (.istore_n 2, 1) := by decide +kernel
theorem dX6_countDistinct_6 : decode cX6_countDistinct 6 = .ok (.iconst 0, 1) := by decide +kernel
theorem dX6_countDistinct_7 : decode cX6_countDistinct 7 = .ok (.istore_n 3, 1) := by decide +kernel
theorem dX6_countDistinct_8 : decode cX6_countDistinct 8 = .ok (.iload_n 3, 1) := by decide +kernel
theorem dX6_countDistinct_9 : decode cX6_countDistinct 9 = .ok (.iload_n 1, 1) := by decide +kernel
theorem dX6_countDistinct_10 : decode cX6_countDistinct 10 = .ok (.if_icmp .ge 27, 3) := by decide +kernel
theorem dX6_countDistinct_13 : decode cX6_countDistinct 13 = .ok (.aload_n 0, 1) := by decide +kernel
theorem dX6_countDistinct_14 : decode cX6_countDistinct 14 = .ok (.aload_n 0, 1) := by decide +kernel
theorem dX6_countDistinct_15 : decode cX6_countDistinct 15 = .ok (.getfield 25, 3) := by decide +kernel
theorem dX6_countDistinct_18 : decode cX6_countDistinct 18 = .ok (.iload_n 3, 1) := by decide +kernel
theorem dX6_countDistinct_19 : decode cX6_countDistinct 19 = .ok (.invokestatic 13, 3) := by decide +kernel
theorem dX6_countDistinct_22 : decode cX6_countDistinct 22 = .ok (.invokevirtual 92, 3) := by decide +kernel
theorem dX6_countDistinct_25 : decode cX6_countDistinct 25 = .ok (.ifCond .eq 6, 3) := by decide +kernel
theorem dX6_countDistinct_28 : decode cX6_countDistinct 28 = .ok (.iinc 2 1, 3) := by decide +kernel
theorem dX6_countDistinct_31 : decode cX6_countDistinct 31 = .ok (.iinc 3 1, 3) := by decide +kernel
theorem dX6_countDistinct_34 : decode cX6_countDistinct 34 = .ok (.goto (-26), 3) := by decide +kernel
theorem dX6_countDistinct_37 : decode cX6_countDistinct 37 = .ok (.iload_n 2, 1) := by decide +kernel
theorem dX6_countDistinct_38 : decode cX6_countDistinct 38 = .ok (.ireturn, 1) := by decide +kernel
theorem dX6_countUnmoved_0 : decode cX6_countUnmoved 0 = .ok (.iconst 0, 1) := by decide +kernel
theorem dX6_countUnmoved_1 : decode cX6_countUnmoved 1 = .ok (.istore_n 2, 1) := by decide +kernel
theorem dX6_countUnmoved_2 : decode cX6_countUnmoved 2 = .ok (.iconst 0, 1) := by decide +kernel
theorem dX6_countUnmoved_3 : decode cX6_countUnmoved 3 = .ok (.istore_n 3, 1) := by decide +kernel
theorem dX6_countUnmoved_4 : decode cX6_countUnmoved 4 = .ok (.iload_n 3, 1) := by decide +kernel
theorem dX6_countUnmoved_5 : decode cX6_countUnmoved 5 = .ok (.iload_n 1, 1) := by decide +kernel
theorem dX6_countUnmoved_6 : decode cX6_countUnmoved 6 = .ok (.if_icmp .ge 24, 3) := by decide +kernel
theorem dX6_countUnmoved_9 : decode cX6_countUnmoved 9 = .ok (.aload_n 0, 1) := by decide +kernel
theorem dX6_countUnmoved_10 : decode cX6_countUnmoved 10 = .ok (.getfield 25, 3) := by decide +kernel
theorem dX6_countUnmoved_13 : decode cX6_countUnmoved 13 = .ok (.iload_n 3, 1) := by decide +kernel
theorem dX6_countUnmoved_14 : decode cX6_countUnmoved 14 = .ok (.invokestatic 13, 3) := by decide +kernel
theorem dX6_countUnmoved_17 : decode cX6_countUnmoved 17 = .ok (.iload_n 3, 1) := by decide +kernel
theorem dX6_countUnmoved_18 : decode cX6_countUnmoved 18 = .ok (.if_icmp .ne 6, 3) := by decide +kernel
theorem dX6_countUnmoved_21 : decode cX6_countUnmoved 21 = .ok (.iinc 2 1, 3) := by decide +kernel
theorem dX6_countUnmoved_24 : decode cX6_countUnmoved 24 = .ok (.iinc 3 1, 3) := by decide +kernel
theorem dX6_countUnmoved_27 : decode cX6_countUnmoved 27 = .ok (.goto (-23), 3) := by decide +kernel
theorem dX6_countUnmoved_30 : decode cX6_countUnmoved 30 = .ok (.iload_n 2, 1) := by decide +kernel
theorem dX6_countUnmoved_31 : decode cX6_countUnmoved 31 = .ok (.ireturn, 1) := by decide +kernel
theorem dX6_followRounds_0 : decode cX6_followRounds 0 = .ok (.aload_n 0, 1) := by decide +kernel
theorem dX6_followRounds_1 : decode cX6_followRounds 1 = .ok (.invokevirtual 89, 3) := by decide +kernel
theorem dX6_followRounds_4 : decode cX6_followRounds 4 = .ok (.aload_n 1, 1) := by decide +kernel
theorem dX6_followRounds_5 : decode cX6_followRounds 5 = .ok (.iconst 0, 1) := by decide +kernel
theorem dX6_followRounds_6 : decode cX6_followRounds 6 = .ok (.putfield 76, 3) := by decide +kernel
theorem dX6_followRounds_9 : decode cX6_followRounds 9 = .ok (.aload_n 1, 1) := by decide +kernel
theorem dX6_followRounds_10 : decode cX6_followRounds 10 = .ok (.lconst 1, 1) := by decide +kernel
theorem dX6_followRounds_11 : decode cX6_followRounds 11 = .ok (.putfield 81, 3) := by decide +kernel
theorem dX6_followRounds_14 : decode cX6_followRounds 14 = .ok (.iconst 0, 1) := by decide +kernel
theorem dX6_followRounds_15 : decode cX6_followRounds 15 = .ok (.istore_n 3, 1) := by decide +kernel
theorem dX6_followRounds_16 : decode cX6_followRounds 16 = .ok (.iload_n 3, 1) := by decide +kernel
theorem dX6_followRounds_17 : decode cX6_followRounds 17 = .ok (.iload_n 2, 1) := by decide +kernel
theorem dX6_followRounds_18 : decode cX6_followRounds 18 = .ok (.if_icmp .ge 45, 3) := by decide +kernel
theorem dX6_followRounds_21 : decode cX6_followRounds 21 = .ok (.aload_n 0, 1) := by decide +kernel
theorem dX6_followRounds_22 : decode cX6_followRounds 22 = .ok (.iload_n 3, 1) := by decide +kernel
theorem dX6_followRounds_23 : decode cX6_followRounds 23 = .ok (.iload_n 2, 1) := by decide +kernel
theorem dX6_followRounds_24 : decode cX6_followRounds 24 = .ok (.invokevirtual 96, 3) := by decide +kernel
theorem dX6_followRounds_27 : decode cX6_followRounds 27 = .ok (.istore 4, 2) := by decide +kernel
theorem dX6_followRounds_29 : decode cX6_followRounds 29 = .ok (.iload 4, 2) := by decide +kernel
theorem dX6_followRounds_31 : decode cX6_followRounds 31 = .ok (.ifCond .le 26, 3) := by decide +kernel
theorem dX6_followRounds_34 : decode cX6_followRounds 34 = .ok (.aload_n 1, 1) := by decide +kernel
theorem dX6_followRounds_35 : decode cX6_followRounds 35 = .ok (.dup, 1) := by decide +kernel
theorem dX6_followRounds_36 : decode cX6_followRounds 36 = .ok (.getfield 76, 3) := by decide +kernel
theorem dX6_followRounds_39 : decode cX6_followRounds 39 = .ok (.iconst 1, 1) := by decide +kernel
theorem dX6_followRounds_40 : decode cX6_followRounds 40 = .ok (.iadd, 1) := by decide +kernel
theorem dX6_followRounds_41 : decode cX6_followRounds 41 = .ok (.putfield 76, 3) := by decide +kernel
theorem dX6_followRounds_44 : decode cX6_followRounds 44 = .ok (.aload_n 1, 1) := by decide +kernel
theorem dX6_followRounds_45 : decode cX6_followRounds 45 = .ok (.aload_n 1, 1) := by decide +kernel
theorem dX6_followRounds_46 : decode cX6_followRounds 46 = .ok (.getfield 81, 3) := by decide +kernel
theorem dX6_followRounds_49 : decode cX6_followRounds 49 = .ok (.iload 4, 2) := by decide +kernel
theorem dX6_followRounds_51 : decode cX6_followRounds 51 = .ok (.invokestatic 99, 3) := by decide +kernel
theorem dX6_followRounds_54 : decode cX6_followRounds 54 = .ok (.putfield 81, 3) := by decide +kernel
theorem dX6_followRounds_57 : decode cX6_followRounds 57 = .ok (.iinc 3 1, 3) := by decide +kernel
theorem dX6_followRounds_60 : decode cX6_followRounds 60 = .ok (.goto (-44), 3) := by decide +kernel
theorem dX6_followRounds_63 : decode cX6_followRounds 63 = .ok (.return_, 1) := by decide +kernel
theorem dX6_roundLength_0 : decode cX6_roundLength 0 = .ok (.iconst 0, 1) := by decide +kernel
theorem dX6_roundLength_1 : decode cX6_roundLength 1 = .ok (.istore_n 3, 1) := by decide +kernel
theorem dX6_roundLength_2 : decode cX6_roundLength 2 = .ok (.iload_n 1, 1) := by decide +kernel
theorem dX6_roundLength_3 : decode cX6_roundLength 3 = .ok (.istore 4, 2) := by decide +kernel
theorem dX6_roundLength_5 : decode cX6_roundLength 5 = .ok (.iload_n 3, 1) := by decide +kernel
theorem dX6_roundLength_6 : decode cX6_roundLength 6 = .ok (.iload_n 2, 1) := by decide +kernel
theorem dX6_roundLength_7 : decode cX6_roundLength 7 = .ok (.if_icmp .ge 29, 3) := by decide +kernel
theorem dX6_roundLength_10 : decode cX6_roundLength 10 = .ok (.aload_n 0, 1) := by decide +kernel
theorem dX6_roundLength_11 : decode cX6_roundLength 11 = .ok (.iload 4, 2) := by decide +kernel
theorem dX6_roundLength_13 : decode cX6_roundLength 13 = .ok (.invokevirtual 92, 3) := by decide +kernel
theorem dX6_roundLength_16 : decode cX6_roundLength 16 = .ok (.ifCond .eq 20, 3) := by decide +kernel
theorem dX6_roundLength_19 : decode cX6_roundLength 19 = .ok (.iinc 3 1, 3) := by decide +kernel
theorem dX6_roundLength_22 : decode cX6_roundLength 22 = .ok (.aload_n 0, 1) := by decide +kernel
theorem dX6_roundLength_23 : decode cX6_roundLength 23 = .ok (.getfield 25, 3) := by decide +kernel
theorem dX6_roundLength_26 : decode cX6_roundLength 26 = .ok (.iload 4, 2) := by decide +kernel
theorem dX6_roundLength_28 : decode cX6_roundLength 28 = .ok (.invokestatic 13, 3) := by decide +kernel
theorem dX6_roundLength_31 : decode cX6_roundLength 31 = .ok (.istore 4, 2) := by decide +kernel
theorem dX6_roundLength_33 : decode cX6_roundLength 33 = .ok (.goto (-28), 3) := by decide +kernel
theorem dX6_roundLength_36 : decode cX6_roundLength 36 = .ok (.iload_n 3, 1) := by decide +kernel
theorem dX6_roundLength_37 : decode cX6_roundLength 37 = .ok (.ireturn, 1) := by decide +kernel
theorem dX6_commonMultiple_0 : decode cX6_commonMultiple 0 = .ok (.iconst 1, 1) := by decide +kernel
theorem dX6_commonMultiple_1 : decode cX6_commonMultiple 1 = .ok (.istore_n 3, 1) := by decide +kernel
theorem dX6_commonMultiple_2 : decode cX6_commonMultiple 2 = .ok (.iload_n 3, 1) := by decide +kernel
theorem dX6_commonMultiple_3 : decode cX6_commonMultiple 3 = .ok (.iload_n 2, 1) := by decide +kernel
theorem dX6_commonMultiple_4 : decode cX6_commonMultiple 4 = .ok (.if_icmp .gt 26, 3) := by decide +kernel
theorem dX6_commonMultiple_7 : decode cX6_commonMultiple 7 = .ok (.lload_n 0, 1) := by decide +kernel
theorem dX6_commonMultiple_8 : decode cX6_commonMultiple 8 = .ok (.iload_n 3, 1) := by decide +kernel
theorem dX6_commonMultiple_9 : decode cX6_commonMultiple 9 = .ok (.i2l, 1) := by decide +kernel
theorem dX6_commonMultiple_10 : decode cX6_commonMultiple 10 = .ok (.lmul, 1) := by decide +kernel
theorem dX6_commonMultiple_11 : decode cX6_commonMultiple 11 = .ok (.iload_n 2, 1) := by decide +kernel
theorem dX6_commonMultiple_12 : decode cX6_commonMultiple 12 = .ok (.i2l, 1) := by decide +kernel
theorem dX6_commonMultiple_13 : decode cX6_commonMultiple 13 = .ok (.lrem, 1) := by decide +kernel
theorem dX6_commonMultiple_14 : decode cX6_commonMultiple 14 = .ok (.lconst 0, 1) := by decide +kernel
theorem dX6_commonMultiple_15 : decode cX6_commonMultiple 15 = .ok (.lcmp, 1) := by decide +kernel
theorem dX6_commonMultiple_16 : decode cX6_commonMultiple 16 = .ok (.ifCond .ne 8, 3) := by decide +kernel
theorem dX6_commonMultiple_19 : decode cX6_commonMultiple 19 = .ok (.lload_n 0, 1) := by decide +kernel
theorem dX6_commonMultiple_20 : decode cX6_commonMultiple 20 = .ok (.iload_n 3, 1) := by decide +kernel
theorem dX6_commonMultiple_21 : decode cX6_commonMultiple 21 = .ok (.i2l, 1) := by decide +kernel
theorem dX6_commonMultiple_22 : decode cX6_commonMultiple 22 = .ok (.lmul, 1) := by decide +kernel
theorem dX6_commonMultiple_23 : decode cX6_commonMultiple 23 = .ok (.lreturn, 1) := by decide +kernel
theorem dX6_commonMultiple_24 : decode cX6_commonMultiple 24 = .ok (.iinc 3 1, 3) := by decide +kernel
theorem dX6_commonMultiple_27 : decode cX6_commonMultiple 27 = .ok (.goto (-25), 3) := by decide +kernel
theorem dX6_commonMultiple_30 : decode cX6_commonMultiple 30 = .ok (.lload_n 0, 1) := by decide +kernel
theorem dX6_commonMultiple_31 : decode cX6_commonMultiple 31 = .ok (.lreturn, 1) := by decide +kernel
theorem dX6_forget_0 : decode cX6_forget 0 = .ok (.iconst 0, 1) := by decide +kernel
theorem dX6_forget_1 : decode cX6_forget 1 = .ok (.istore_n 1, 1) := by decide +kernel
theorem dX6_forget_2 : decode cX6_forget 2 = .ok (.iload_n 1, 1) := by decide +kernel
theorem dX6_forget_3 : decode cX6_forget 3 = .ok (.aload_n 0, 1) := by decide +kernel
theorem dX6_forget_4 : decode cX6_forget 4 = .ok (.getfield 30, 3) := by decide +kernel
theorem dX6_forget_7 : decode cX6_forget 7 = .ok (.arraylength, 1) := by decide +kernel
theorem dX6_forget_8 : decode cX6_forget 8 = .ok (.if_icmp .ge 16, 3) := by decide +kernel
theorem dX6_forget_11 : decode cX6_forget 11 = .ok (.aload_n 0, 1) := by decide +kernel
theorem dX6_forget_12 : decode cX6_forget 12 = .ok (.getfield 30, 3) := by decide +kernel
theorem dX6_forget_15 : decode cX6_forget 15 = .ok (.iload_n 1, 1) := by decide +kernel
theorem dX6_forget_16 : decode cX6_forget 16 = .ok (.iconst 0, 1) := by decide +kernel
theorem dX6_forget_17 : decode cX6_forget 17 = .ok (.bastore, 1) := by decide +kernel
theorem dX6_forget_18 : decode cX6_forget 18 = .ok (.iinc 1 1, 3) := by decide +kernel
theorem dX6_forget_21 : decode cX6_forget 21 = .ok (.goto (-19), 3) := by decide +kernel
theorem dX6_forget_24 : decode cX6_forget 24 = .ok (.return_, 1) := by decide +kernel
theorem dX6_meet_0 : decode cX6_meet 0 = .ok (.iload_n 1, 1) := by decide +kernel
theorem dX6_meet_1 : decode cX6_meet 1 = .ok (.ifCond .lt 21, 3) := by decide +kernel
theorem dX6_meet_4 : decode cX6_meet 4 = .ok (.iload_n 1, 1) := by decide +kernel
theorem dX6_meet_5 : decode cX6_meet 5 = .ok (.aload_n 0, 1) := by decide +kernel
theorem dX6_meet_6 : decode cX6_meet 6 = .ok (.getfield 30, 3) := by decide +kernel
theorem dX6_meet_9 : decode cX6_meet 9 = .ok (.arraylength, 1) := by decide +kernel
theorem dX6_meet_10 : decode cX6_meet 10 = .ok (.if_icmp .ge 12, 3) := by decide +kernel
theorem dX6_meet_13 : decode cX6_meet 13 = .ok (.aload_n 0, 1) := by decide +kernel
theorem dX6_meet_14 : decode cX6_meet 14 = .ok (.getfield 30, 3) := by decide +kernel
theorem dX6_meet_17 : decode cX6_meet 17 = .ok (.iload_n 1, 1) := by decide +kernel
theorem dX6_meet_18 : decode cX6_meet 18 = .ok (.baload, 1) := by decide +kernel
theorem dX6_meet_19 : decode cX6_meet 19 = .ok (.ifCond .eq 5, 3) := by decide +kernel
theorem dX6_meet_22 : decode cX6_meet 22 = .ok (.iconst 0, 1) := by decide +kernel
theorem dX6_meet_23 : decode cX6_meet 23 = .ok (.ireturn, 1) := by decide +kernel
theorem dX6_meet_24 : decode cX6_meet 24 = .ok (.aload_n 0, 1) := by decide +kernel
theorem dX6_meet_25 : decode cX6_meet 25 = .ok (.getfield 30, 3) := by decide +kernel
theorem dX6_meet_28 : decode cX6_meet 28 = .ok (.iload_n 1, 1) := by decide +kernel
theorem dX6_meet_29 : decode cX6_meet 29 = .ok (.iconst 1, 1) := by decide +kernel
theorem dX6_meet_30 : decode cX6_meet 30 = .ok (.bastore, 1) := by decide +kernel
theorem dX6_meet_31 : decode cX6_meet 31 = .ok (.iconst 1, 1) := by decide +kernel
theorem dX6_meet_32 : decode cX6_meet 32 = .ok (.ireturn, 1) := by decide +kernel
theorem dX8_init_0 : decode cX8_init 0 = .ok (.aload_n 0, 1) := by decide +kernel
theorem dX8_init_1 : decode cX8_init 1 = .ok (.invokespecial 1, 3) := by decide +kernel
theorem dX8_init_4 : decode cX8_init 4 = .ok (.aload_n 0, 1) := by decide +kernel
theorem dX8_init_5 : decode cX8_init 5 = .ok (.iload_n 1, 1) := by decide +kernel
theorem dX8_init_6 : decode cX8_init 6 = .ok (.putfield 7, 3) := by decide +kernel
theorem dX8_init_9 : decode cX8_init 9 = .ok (.aload_n 0, 1) := by decide +kernel
theorem dX8_init_10 : decode cX8_init 10 = .ok (.iload_n 2, 1) := by decide +kernel
theorem dX8_init_11 : decode cX8_init 11 = .ok (.putfield 13, 3) := by decide +kernel
theorem dX8_init_14 : decode cX8_init 14 = .ok (.aload_n 0, 1) := by decide +kernel
theorem dX8_init_15 : decode cX8_init 15 = .ok (.iload_n 1, 1) := by decide +kernel
theorem dX8_init_16 : decode cX8_init 16 = .ok (.putfield 16, 3) := by decide +kernel
theorem dX8_init_19 : decode cX8_init 19 = .ok (.aload_n 0, 1) := by decide +kernel
theorem dX8_init_20 : decode cX8_init 20 = .ok (.iload_n 2, 1) := by decide +kernel
theorem dX8_init_21 : decode cX8_init 21 = .ok (.putfield 19, 3) := by decide +kernel
theorem dX8_init_24 : decode cX8_init 24 = .ok (.return_, 1) := by decide +kernel
theorem dX8_go_0 : decode cX8_go 0 = .ok (.aload_n 0, 1) := by decide +kernel
theorem dX8_go_1 : decode cX8_go 1 = .ok (.iload_n 1, 1) := by decide +kernel
theorem dX8_go_2 : decode cX8_go 2 = .ok (.putfield 16, 3) := by decide +kernel
theorem dX8_go_5 : decode cX8_go 5 = .ok (.aload_n 0, 1) := by decide +kernel
theorem dX8_go_6 : decode cX8_go 6 = .ok (.iload_n 2, 1) := by decide +kernel
theorem dX8_go_7 : decode cX8_go 7 = .ok (.putfield 19, 3) := by decide +kernel
theorem dX8_go_10 : decode cX8_go 10 = .ok (.aload_n 0, 1) := by decide +kernel
theorem dX8_go_11 : decode cX8_go 11 = .ok (.dup, 1) := by decide +kernel
theorem dX8_go_12 : decode cX8_go 12 = .ok (.getfield 22, 3) := by decide +kernel
theorem dX8_go_15 : decode cX8_go 15 = .ok (.iconst 1, 1) := by decide +kernel
theorem dX8_go_16 : decode cX8_go 16 = .ok (.iadd, 1) := by decide +kernel
theorem dX8_go_17 : decode cX8_go 17 = .ok (.putfield 22, 3) := by decide +kernel
theorem dX8_go_20 : decode cX8_go 20 = .ok (.aload_n 0, 1) := by decide +kernel
theorem dX8_go_21 : decode cX8_go 21 = .ok (.getfield 16, 3) := by decide +kernel
theorem dX8_go_24 : decode cX8_go 24 = .ok (.aload_n 0, 1) := by decide +kernel
theorem dX8_go_25 : decode cX8_go 25 = .ok (.getfield 7, 3) := by decide +kernel
theorem dX8_go_28 : decode cX8_go 28 = .ok (.if_icmp .ne 24, 3) := by decide +kernel
theorem dX8_go_31 : decode cX8_go 31 = .ok (.aload_n 0, 1) := by decide +kernel
theorem dX8_go_32 : decode cX8_go 32 = .ok (.getfield 19, 3) := by decide +kernel
theorem dX8_go_35 : decode cX8_go 35 = .ok (.aload_n 0, 1) := by decide +kernel
theorem dX8_go_36 : decode cX8_go 36 = .ok (.getfield 13, 3) := by decide +kernel
theorem dX8_go_39 : decode cX8_go 39 = .ok (.if_icmp .ne 13, 3) := by decide +kernel
theorem dX8_go_42 : decode cX8_go 42 = .ok (.aload_n 0, 1) := by decide +kernel
theorem dX8_go_43 : decode cX8_go 43 = .ok (.dup, 1) := by decide +kernel
theorem dX8_go_44 : decode cX8_go 44 = .ok (.getfield 25, 3) := by decide +kernel
theorem dX8_go_47 : decode cX8_go 47 = .ok (.iconst 1, 1) := by decide +kernel
theorem dX8_go_48 : decode cX8_go 48 = .ok (.iadd, 1) := by decide +kernel
theorem dX8_go_49 : decode cX8_go 49 = .ok (.putfield 25, 3) := by decide +kernel
theorem dX8_go_52 : decode cX8_go 52 = .ok (.return_, 1) := by decide +kernel
theorem dX1_init_0 : decode cX1_init 0 = .ok (.aload_n 0, 1) := by decide +kernel
theorem dX1_init_1 : decode cX1_init 1 = .ok (.invokespecial 1, 3) := by decide +kernel
theorem dX1_init_4 : decode cX1_init 4 = .ok (.aload_n 0, 1) := by decide +kernel
theorem dX1_init_5 : decode cX1_init 5 = .ok (.iload_n 1, 1) := by decide +kernel
theorem dX1_init_6 : decode cX1_init 6 = .ok (.putfield 7, 3) := by decide +kernel
theorem dX1_init_9 : decode cX1_init 9 = .ok (.aload_n 0, 1) := by decide +kernel
theorem dX1_init_10 : decode cX1_init 10 = .ok (.iload_n 2, 1) := by decide +kernel
theorem dX1_init_11 : decode cX1_init 11 = .ok (.putfield 13, 3) := by decide +kernel
theorem dX1_init_14 : decode cX1_init 14 = .ok (.aload_n 0, 1) := by decide +kernel
theorem dX1_init_15 : decode cX1_init 15 = .ok (.iload_n 3, 1) := by decide +kernel
theorem dX1_init_16 : decode cX1_init 16 = .ok (.putfield 16, 3) := by decide +kernel
theorem dX1_init_19 : decode cX1_init 19 = .ok (.return_, 1) := by decide +kernel
theorem dX1_note_0 : decode cX1_note 0 = .ok (.aload_n 0, 1) := by decide +kernel
theorem dX1_note_1 : decode cX1_note 1 = .ok (.dup, 1) := by decide +kernel
theorem dX1_note_2 : decode cX1_note 2 = .ok (.getfield 19, 3) := by decide +kernel
theorem dX1_note_5 : decode cX1_note 5 = .ok (.iconst 1, 1) := by decide +kernel
theorem dX1_note_6 : decode cX1_note 6 = .ok (.iload_n 1, 1) := by decide +kernel
theorem dX1_note_7 : decode cX1_note 7 = .ok (.ishl, 1) := by decide +kernel
theorem dX1_note_8 : decode cX1_note 8 = .ok (.ior, 1) := by decide +kernel
theorem dX1_note_9 : decode cX1_note 9 = .ok (.putfield 19, 3) := by decide +kernel
theorem dX1_note_12 : decode cX1_note 12 = .ok (.iload_n 2, 1) := by decide +kernel
theorem dX1_note_13 : decode cX1_note 13 = .ok (.ifCond .ne 15, 3) := by decide +kernel
theorem dX1_note_16 : decode cX1_note 16 = .ok (.aload_n 0, 1) := by decide +kernel
theorem dX1_note_17 : decode cX1_note 17 = .ok (.dup, 1) := by decide +kernel
theorem dX1_note_18 : decode cX1_note 18 = .ok (.getfield 22, 3) := by decide +kernel
theorem dX1_note_21 : decode cX1_note 21 = .ok (.iconst 1, 1) := by decide +kernel
theorem dX1_note_22 : decode cX1_note 22 = .ok (.iload_n 1, 1) := by decide +kernel
theorem dX1_note_23 : decode cX1_note 23 = .ok (.ishl, 1) := by decide +kernel
theorem dX1_note_24 : decode cX1_note 24 = .ok (.ior, 1) := by decide +kernel
theorem dX1_note_25 : decode cX1_note 25 = .ok (.putfield 22, 3) := by decide +kernel
theorem dX1_note_28 : decode cX1_note 28 = .ok (.return_, 1) := by decide +kernel
theorem dX9_init_0 : decode cX9_init 0 = .ok (.aload_n 0, 1) := by decide +kernel
theorem dX9_init_1 : decode cX9_init 1 = .ok (.invokespecial 1, 3) := by decide +kernel
theorem dX9_init_4 : decode cX9_init 4 = .ok (.aload_n 0, 1) := by decide +kernel
theorem dX9_init_5 : decode cX9_init 5 = .ok (.bipush 7, 2) := by decide +kernel
theorem dX9_init_7 : decode cX9_init 7 = .ok (.anewarray 9, 3) := by decide +kernel
theorem dX9_init_10 : decode cX9_init 10 = .ok (.putfield 11, 3) := by decide +kernel
theorem dX9_init_13 : decode cX9_init 13 = .ok (.aload_n 0, 1) := by decide +kernel
theorem dX9_init_14 : decode cX9_init 14 = .ok (.new 15, 3) := by decide +kernel
theorem dX9_init_17 : decode cX9_init 17 = .ok (.dup, 1) := by decide +kernel
theorem dX9_init_18 : decode cX9_init 18 = .ok (.invokespecial 17, 3) := by decide +kernel
theorem dX9_init_21 : decode cX9_init 21 = .ok (.putfield 18, 3) := by decide +kernel
theorem dX9_init_24 : decode cX9_init 24 = .ok (.aload_n 0, 1) := by decide +kernel
theorem dX9_init_25 : decode cX9_init 25 = .ok (.bipush 8, 2) := by decide +kernel
theorem dX9_init_27 : decode cX9_init 27 = .ok (.anewarray 22, 3) := by decide +kernel
theorem dX9_init_30 : decode cX9_init 30 = .ok (.putfield 24, 3) := by decide +kernel
theorem dX9_init_33 : decode cX9_init 33 = .ok (.aload_n 0, 1) := by decide +kernel
theorem dX9_init_34 : decode cX9_init 34 = .ok (.iconst 4, 1) := by decide +kernel
theorem dX9_init_35 : decode cX9_init 35 = .ok (.anewarray 28, 3) := by decide +kernel
theorem dX9_init_38 : decode cX9_init 38 = .ok (.putfield 30, 3) := by decide +kernel
theorem dX9_init_41 : decode cX9_init 41 = .ok (.aload_n 0, 1) := by decide +kernel
theorem dX9_init_42 : decode cX9_init 42 = .ok (.bipush 8, 2) := by decide +kernel
theorem dX9_init_44 : decode cX9_init 44 = .ok (.anewarray 34, 3) := by decide +kernel
theorem dX9_init_47 : decode cX9_init 47 = .ok (.putfield 36, 3) := by decide +kernel
theorem dX9_init_50 : decode cX9_init 50 = .ok (.aload_n 0, 1) := by decide +kernel
theorem dX9_init_51 : decode cX9_init 51 = .ok (.iconst 3, 1) := by decide +kernel
theorem dX9_init_52 : decode cX9_init 52 = .ok (.invokestatic 40, 3) := by decide +kernel
theorem dX9_init_55 : decode cX9_init 55 = .ok (.putfield 44, 3) := by decide +kernel
theorem dX9_init_58 : decode cX9_init 58 = .ok (.iconst 3, 1) := by decide +kernel
theorem dX9_init_59 : decode cX9_init 59 = .ok (.aload_n 0, 1) := by decide +kernel
theorem dX9_init_60 : decode cX9_init 60 = .ok (.getfield 11, 3) := by decide +kernel
theorem dX9_init_63 : decode cX9_init 63 = .ok (.arraylength, 1) := by decide +kernel
theorem dX9_init_64 : decode cX9_init 64 = .ok (.if_icmp .ge 13, 3) := by decide +kernel
theorem dX9_init_67 : decode cX9_init 67 = .ok (.aload_n 0, 1) := by decide +kernel
theorem dX9_init_68 : decode cX9_init 68 = .ok (.getfield 11, 3) := by decide +kernel
theorem dX9_init_71 : decode cX9_init 71 = .ok (.iconst 3, 1) := by decide +kernel
theorem dX9_init_72 : decode cX9_init 72 = .ok (.aload_n 0, 1) := by decide +kernel
theorem dX9_init_73 : decode cX9_init 73 = .ok (.getfield 44, 3) := by decide +kernel
theorem dX9_init_76 : decode cX9_init 76 = .ok (.aastore, 1) := by decide +kernel
theorem dX9_init_77 : decode cX9_init 77 = .ok (.return_, 1) := by decide +kernel
theorem dX9_size_0 : decode cX9_size 0 = .ok (.iload_n 1, 1) := by decide +kernel
theorem dX9_size_1 : decode cX9_size 1 = .ok (.iconst 1, 1) := by decide +kernel
theorem dX9_size_2 : decode cX9_size 2 = .ok (.if_icmp .lt 18, 3) := by decide +kernel
theorem dX9_size_5 : decode cX9_size 5 = .ok (.iload_n 1, 1) := by decide +kernel
theorem dX9_size_6 : decode cX9_size 6 = .ok (.bipush 6, 2) := by decide +kernel
theorem dX9_size_8 : decode cX9_size 8 = .ok (.if_icmp .gt 12, 3) := by decide +kernel
theorem dX9_size_11 : decode cX9_size 11 = .ok (.iload_n 1, 1) := by decide +kernel
theorem dX9_size_12 : decode cX9_size 12 = .ok (.aload_n 0, 1) := by decide +kernel
theorem dX9_size_13 : decode cX9_size 13 = .ok (.getfield 11, 3) := by decide +kernel
theorem dX9_size_16 : decode cX9_size 16 = .ok (.arraylength, 1) := by decide +kernel
theorem dX9_size_17 : decode cX9_size 17 = .ok (.if_icmp .lt 13, 3) := by decide +kernel
theorem dX9_size_20 : decode cX9_size 20 = .ok (.new 48, 3) := by decide +kernel
theorem dX9_size_23 : decode cX9_size 23 = .ok (.dup, 1) := by decide +kernel
theorem dX9_size_24 : decode cX9_size 24 = .ok (.ldc 50, 2) := by decide +kernel
theorem dX9_size_26 : decode cX9_size 26 = .ok (.invokespecial 52, 3) := by decide +kernel
theorem dX9_size_29 : decode cX9_size 29 = .ok (.athrow, 1) := by decide +kernel
theorem dX9_size_30 : decode cX9_size 30 = .ok (.aload_n 0, 1) := by decide +kernel
theorem dX9_size_31 : decode cX9_size 31 = .ok (.getfield 11, 3) := by decide +kernel
theorem dX9_size_34 : decode cX9_size 34 = .ok (.iload_n 1, 1) := by decide +kernel
theorem dX9_size_35 : decode cX9_size 35 = .ok (.aaload, 1) := by decide +kernel
theorem dX9_size_36 : decode cX9_size 36 = .ok (.astore_n 2, 1) := by decide +kernel
theorem dX9_size_37 : decode cX9_size 37 = .ok (.aload_n 2, 1) := by decide +kernel
theorem dX9_size_38 : decode cX9_size 38 = .ok (.ifnonnull 15, 3) := by decide +kernel
theorem dX9_size_41 : decode cX9_size 41 = .ok (.iload_n 1, 1) := by decide +kernel
theorem dX9_size_42 : decode cX9_size 42 = .ok (.invokestatic 40, 3) := by decide +kernel
theorem dX9_size_45 : decode cX9_size 45 = .ok (.astore_n 2, 1) := by decide +kernel
theorem dX9_size_46 : decode cX9_size 46 = .ok (.aload_n 0, 1) := by decide +kernel
theorem dX9_size_47 : decode cX9_size 47 = .ok (.getfield 11, 3) := by decide +kernel
theorem dX9_size_50 : decode cX9_size 50 = .ok (.iload_n 1, 1) := by decide +kernel
theorem dX9_size_51 : decode cX9_size 51 = .ok (.aload_n 2, 1) := by decide +kernel
theorem dX9_size_52 : decode cX9_size 52 = .ok (.aastore, 1) := by decide +kernel
theorem dX9_size_53 : decode cX9_size 53 = .ok (.aload_n 0, 1) := by decide +kernel
theorem dX9_size_54 : decode cX9_size 54 = .ok (.aload_n 2, 1) := by decide +kernel
theorem dX9_size_55 : decode cX9_size 55 = .ok (.putfield 44, 3) := by decide +kernel
theorem dX9_size_58 : decode cX9_size 58 = .ok (.aload_n 0, 1) := by decide +kernel
theorem dX9_size_59 : decode cX9_size 59 = .ok (.getfield 55, 3) := by decide +kernel
theorem dX9_size_62 : decode cX9_size 62 = .ok (.istore_n 3, 1) := by decide +kernel
theorem dX9_size_63 : decode cX9_size 63 = .ok (.aload_n 0, 1) := by decide +kernel
theorem dX9_size_64 : decode cX9_size 64 = .ok (.iconst 0, 1) := by decide +kernel
theorem dX9_size_65 : decode cX9_size 65 = .ok (.putfield 55, 3) := by decide +kernel
theorem dX9_size_68 : decode cX9_size 68 = .ok (.iload_n 3, 1) := by decide +kernel
theorem dX9_size_69 : decode cX9_size 69 = .ok (.ireturn, 1) := by decide +kernel
theorem dX9_map_0 : decode cX9_map 0 = .ok (.iload_n 1, 1) := by decide +kernel
theorem dX9_map_1 : decode cX9_map 1 = .ok (.invokestatic 59, 3) := by decide +kernel
theorem dX9_map_4 : decode cX9_map 4 = .ok (.aload_n 0, 1) := by decide +kernel
theorem dX9_map_5 : decode cX9_map 5 = .ok (.getfield 63, 3) := by decide +kernel
theorem dX9_map_8 : decode cX9_map 8 = .ok (.bipush 8, 2) := by decide +kernel
theorem dX9_map_10 : decode cX9_map 10 = .ok (.if_icmp .ge 15, 3) := by decide +kernel
theorem dX9_map_13 : decode cX9_map 13 = .ok (.aload_n 0, 1) := by decide +kernel
theorem dX9_map_14 : decode cX9_map 14 = .ok (.getfield 63, 3) := by decide +kernel
theorem dX9_map_17 : decode cX9_map 17 = .ok (.aload_n 0, 1) := by decide +kernel
theorem dX9_map_18 : decode cX9_map 18 = .ok (.getfield 24, 3) := by decide +kernel
theorem dX9_map_21 : decode cX9_map 21 = .ok (.arraylength, 1) := by decide +kernel
theorem dX9_map_22 : decode cX9_map 22 = .ok (.if_icmp .lt 13, 3) := by decide +kernel
theorem dX9_map_25 : decode cX9_map 25 = .ok (.new 66, 3) := by decide +kernel
theorem dX9_map_28 : decode cX9_map 28 = .ok (.dup, 1) := by decide +kernel
theorem dX9_map_29 : decode cX9_map 29 = .ok (.ldc 68, 2) := by decide +kernel
theorem dX9_map_31 : decode cX9_map 31 = .ok (.invokespecial 70, 3) := by decide +kernel
theorem dX9_map_34 : decode cX9_map 34 = .ok (.athrow, 1) := by decide +kernel
theorem dX9_map_35 : decode cX9_map 35 = .ok (.aload_n 0, 1) := by decide +kernel
theorem dX9_map_36 : decode cX9_map 36 = .ok (.getfield 24, 3) := by decide +kernel
theorem dX9_map_39 : decode cX9_map 39 = .ok (.aload_n 0, 1) := by decide +kernel
theorem dX9_map_40 : decode cX9_map 40 = .ok (.getfield 63, 3) := by decide +kernel
theorem dX9_map_43 : decode cX9_map 43 = .ok (.new 22, 3) := by decide +kernel
theorem dX9_map_46 : decode cX9_map 46 = .ok (.dup, 1) := by decide +kernel
theorem dX9_map_47 : decode cX9_map 47 = .ok (.iload_n 1, 1) := by decide +kernel
theorem dX9_map_48 : decode cX9_map 48 = .ok (.invokespecial 71, 3) := by decide +kernel
theorem dX9_map_51 : decode cX9_map 51 = .ok (.aastore, 1) := by decide +kernel
theorem dX9_map_52 : decode cX9_map 52 = .ok (.aload_n 0, 1) := by decide +kernel
theorem dX9_map_53 : decode cX9_map 53 = .ok (.dup, 1) := by decide +kernel
theorem dX9_map_54 : decode cX9_map 54 = .ok (.getfield 63, 3) := by decide +kernel
theorem dX9_map_57 : decode cX9_map 57 = .ok (.iconst 1, 1) := by decide +kernel
theorem dX9_map_58 : decode cX9_map 58 = .ok (.iadd, 1) := by decide +kernel
theorem dX9_map_59 : decode cX9_map 59 = .ok (.putfield 63, 3) := by decide +kernel
theorem dX9_map_62 : decode cX9_map 62 = .ok (.aload_n 0, 1) := by decide +kernel
theorem dX9_map_63 : decode cX9_map 63 = .ok (.getfield 63, 3) := by decide +kernel
theorem dX9_map_66 : decode cX9_map 66 = .ok (.iconst 1, 1) := by decide +kernel
theorem dX9_map_67 : decode cX9_map 67 = .ok (.isub, 1) := by decide +kernel
theorem dX9_map_68 : decode cX9_map 68 = .ok (.ireturn, 1) := by decide +kernel
theorem dX9_then_0 : decode cX9_then 0 = .ok (.aload_n 0, 1) := by decide +kernel
theorem dX9_then_1 : decode cX9_then 1 = .ok (.iload_n 1, 1) := by decide +kernel
theorem dX9_then_2 : decode cX9_then 2 = .ok (.invokevirtual 73, 3) := by decide +kernel
theorem dX9_then_5 : decode cX9_then 5 = .ok (.astore_n 3, 1) := by decide +kernel
theorem dX9_then_6 : decode cX9_then 6 = .ok (.iload_n 2, 1) := by decide +kernel
theorem dX9_then_7 : decode cX9_then 7 = .ok (.invokestatic 59, 3) := by decide +kernel
theorem dX9_then_10 : decode cX9_then 10 = .ok (.aload_n 3, 1) := by decide +kernel
theorem dX9_then_11 : decode cX9_then 11 = .ok (.getfield 77, 3) := by decide +kernel
theorem dX9_then_14 : decode cX9_then 14 = .ok (.bipush 6, 2) := by decide +kernel
theorem dX9_then_16 : decode cX9_then 16 = .ok (.if_icmp .lt 13, 3) := by decide +kernel
theorem dX9_then_19 : decode cX9_then 19 = .ok (.new 66, 3) := by decide +kernel
theorem dX9_then_22 : decode cX9_then 22 = .ok (.dup, 1) := by decide +kernel
theorem dX9_then_23 : decode cX9_then 23 = .ok (.ldc 80, 2) := by decide +kernel
theorem dX9_then_25 : decode cX9_then 25 = .ok (.invokespecial 70, 3) := by decide +kernel
theorem dX9_then_28 : decode cX9_then 28 = .ok (.athrow, 1) := by decide +kernel
theorem dX9_then_29 : decode cX9_then 29 = .ok (.aload_n 3, 1) := by decide +kernel
theorem dX9_then_30 : decode cX9_then 30 = .ok (.getfield 82, 3) := by decide +kernel
theorem dX9_then_33 : decode cX9_then 33 = .ok (.ifCond .eq 13, 3) := by decide +kernel
theorem dX9_then_36 : decode cX9_then 36 = .ok (.new 66, 3) := by decide +kernel
theorem dX9_then_39 : decode cX9_then 39 = .ok (.dup, 1) := by decide +kernel
theorem dX9_then_40 : decode cX9_then 40 = .ok (.ldc 86, 2) := by decide +kernel
theorem dX9_then_42 : decode cX9_then 42 = .ok (.invokespecial 70, 3) := by decide +kernel
theorem dX9_then_45 : decode cX9_then 45 = .ok (.athrow, 1) := by decide +kernel
theorem dX9_then_46 : decode cX9_then 46 = .ok (.getstatic 88, 3) := by decide +kernel
theorem dX9_then_49 : decode cX9_then 49 = .ok (.iload_n 2, 1) := by decide +kernel
theorem dX9_then_50 : decode cX9_then 50 = .ok (.invokestatic 92, 3) := by decide +kernel
theorem dX9_then_53 : decode cX9_then 53 = .ok (.aload_n 3, 1) := by decide +kernel
theorem dX9_then_54 : decode cX9_then 54 = .ok (.getfield 98, 3) := by decide +kernel
theorem dX9_then_57 : decode cX9_then 57 = .ok (.if_icmp .eq 13, 3) := by decide +kernel
theorem dX9_then_60 : decode cX9_then 60 = .ok (.new 66, 3) := by decide +kernel
theorem dX9_then_63 : decode cX9_then 63 = .ok (.dup, 1) := by decide +kernel
theorem dX9_then_64 : decode cX9_then 64 = .ok (.ldc 101, 2) := by decide +kernel
theorem dX9_then_66 : decode cX9_then 66 = .ok (.invokespecial 70, 3) := by decide +kernel
theorem dX9_then_69 : decode cX9_then 69 = .ok (.athrow, 1) := by decide +kernel
theorem dX9_then_70 : decode cX9_then 70 = .ok (.aload_n 3, 1) := by decide +kernel
theorem dX9_then_71 : decode cX9_then 71 = .ok (.iload_n 2, 1) := by decide +kernel
theorem dX9_then_72 : decode cX9_then 72 = .ok (.invokevirtual 103, 3) := by decide +kernel
theorem dX9_then_75 : decode cX9_then 75 = .ok (.aload_n 3, 1) := by decide +kernel
theorem dX9_then_76 : decode cX9_then 76 = .ok (.getfield 77, 3) := by decide +kernel
theorem dX9_then_79 : decode cX9_then 79 = .ok (.ireturn, 1) := by decide +kernel
theorem dX9_walker_0 : decode cX9_walker 0 = .ok (.iload_n 1, 1) := by decide +kernel
theorem dX9_walker_1 : decode cX9_walker 1 = .ok (.invokestatic 106, 3) := by decide +kernel
theorem dX9_walker_4 : decode cX9_walker 4 = .ok (.aload_n 0, 1) := by decide +kernel
theorem dX9_walker_5 : decode cX9_walker 5 = .ok (.getfield 44, 3) := by decide +kernel
theorem dX9_walker_8 : decode cX9_walker 8 = .ok (.iload_n 1, 1) := by decide +kernel
theorem dX9_walker_9 : decode cX9_walker 9 = .ok (.iload_n 2, 1) := by decide +kernel
theorem dX9_walker_10 : decode cX9_walker 10 = .ok (.invokevirtual 109, 3) := by decide +kernel
theorem dX9_walker_13 : decode cX9_walker 13 = .ok (.istore_n 3, 1) := by decide +kernel
theorem dX9_walker_14 : decode cX9_walker 14 = .ok (.iload_n 3, 1) := by decide +kernel
theorem dX9_walker_15 : decode cX9_walker 15 = .ok (.iconst (-1), 1) := by decide +kernel
theorem dX9_walker_16 : decode cX9_walker 16 = .ok (.if_icmp .ne 13, 3) := by decide +kernel
theorem dX9_walker_19 : decode cX9_walker 19 = .ok (.new 48, 3) := by decide +kernel
theorem dX9_walker_22 : decode cX9_walker 22 = .ok (.dup, 1) := by decide +kernel
theorem dX9_walker_23 : decode cX9_walker 23 = .ok (.ldc 113, 2) := by decide +kernel
theorem dX9_walker_25 : decode cX9_walker 25 = .ok (.invokespecial 52, 3) := by decide +kernel
theorem dX9_walker_28 : decode cX9_walker 28 = .ok (.athrow, 1) := by decide +kernel
theorem dX9_walker_29 : decode cX9_walker 29 = .ok (.aload_n 0, 1) := by decide +kernel
theorem dX9_walker_30 : decode cX9_walker 30 = .ok (.getfield 55, 3) := by decide +kernel
theorem dX9_walker_33 : decode cX9_walker 33 = .ok (.iconst 4, 1) := by decide +kernel
theorem dX9_walker_34 : decode cX9_walker 34 = .ok (.if_icmp .ge 15, 3) := by decide +kernel
theorem dX9_walker_37 : decode cX9_walker 37 = .ok (.aload_n 0, 1) := by decide +kernel
theorem dX9_walker_38 : decode cX9_walker 38 = .ok (.getfield 55, 3) := by decide +kernel
theorem dX9_walker_41 : decode cX9_walker 41 = .ok (.aload_n 0, 1) := by decide +kernel
theorem dX9_walker_42 : decode cX9_walker 42 = .ok (.getfield 30, 3) := by decide +kernel
theorem dX9_walker_45 : decode cX9_walker 45 = .ok (.arraylength, 1) := by decide +kernel
theorem dX9_walker_46 : decode cX9_walker 46 = .ok (.if_icmp .lt 13, 3) := by decide +kernel
theorem dX9_walker_49 : decode cX9_walker 49 = .ok (.new 66, 3) := by decide +kernel
theorem dX9_walker_52 : decode cX9_walker 52 = .ok (.dup, 1) := by decide +kernel
theorem dX9_walker_53 : decode cX9_walker 53 = .ok (.ldc 115, 2) := by decide +kernel
theorem dX9_walker_55 : decode cX9_walker 55 = .ok (.invokespecial 70, 3) := by decide +kernel
theorem dX9_walker_58 : decode cX9_walker 58 = .ok (.athrow, 1) := by decide +kernel
theorem dX9_walker_59 : decode cX9_walker 59 = .ok (.aload_n 0, 1) := by decide +kernel
theorem dX9_walker_60 : decode cX9_walker 60 = .ok (.getfield 30, 3) := by decide +kernel
theorem dX9_walker_63 : decode cX9_walker 63 = .ok (.aload_n 0, 1) := by decide +kernel
theorem dX9_walker_64 : decode cX9_walker 64 = .ok (.getfield 55, 3) := by decide +kernel
theorem dX9_walker_67 : decode cX9_walker 67 = .ok (.new 28, 3) := by decide +kernel
theorem dX9_walker_70 : decode cX9_walker 70 = .ok (.dup, 1) := by decide +kernel
theorem dX9_walker_71 : decode cX9_walker 71 = .ok (.iload_n 1, 1) := by decide +kernel
theorem dX9_walker_72 : decode cX9_walker 72 = .ok (.iload_n 3, 1) := by decide +kernel
theorem dX9_walker_73 : decode cX9_walker 73 = .ok (.invokespecial 117, 3) := by decide +kernel
theorem dX9_walker_76 : decode cX9_walker 76 = .ok (.aastore, 1) := by decide +kernel
theorem dX9_walker_77 : decode cX9_walker 77 = .ok (.aload_n 0, 1) := by decide +kernel
theorem dX9_walker_78 : decode cX9_walker 78 = .ok (.dup, 1) := by decide +kernel
theorem dX9_walker_79 : decode cX9_walker 79 = .ok (.getfield 55, 3) := by decide +kernel
theorem dX9_walker_82 : decode cX9_walker 82 = .ok (.iconst 1, 1) := by decide +kernel
theorem dX9_walker_83 : decode cX9_walker 83 = .ok (.iadd, 1) := by decide +kernel
theorem dX9_walker_84 : decode cX9_walker 84 = .ok (.putfield 55, 3) := by decide +kernel
theorem dX9_walker_87 : decode cX9_walker 87 = .ok (.aload_n 0, 1) := by decide +kernel
theorem dX9_walker_88 : decode cX9_walker 88 = .ok (.getfield 55, 3) := by decide +kernel
theorem dX9_walker_91 : decode cX9_walker 91 = .ok (.iconst 1, 1) := by decide +kernel
theorem dX9_walker_92 : decode cX9_walker 92 = .ok (.isub, 1) := by decide +kernel
theorem dX9_walker_93 : decode cX9_walker 93 = .ok (.ireturn, 1) := by decide +kernel
theorem dX9_claim_0 : decode cX9_claim 0 = .ok (.aload_n 0, 1) := by decide +kernel
theorem dX9_claim_1 : decode cX9_claim 1 = .ok (.iload_n 1, 1) := by decide +kernel
theorem dX9_claim_2 : decode cX9_claim 2 = .ok (.invokevirtual 73, 3) := by decide +kernel
theorem dX9_claim_5 : decode cX9_claim 5 = .ok (.astore 4, 2) := by decide +kernel
theorem dX9_claim_7 : decode cX9_claim 7 = .ok (.iload_n 2, 1) := by decide +kernel
theorem dX9_claim_8 : decode cX9_claim 8 = .ok (.invokestatic 120, 3) := by decide +kernel
theorem dX9_claim_11 : decode cX9_claim 11 = .ok (.iload_n 3, 1) := by decide +kernel
theorem dX9_claim_12 : decode cX9_claim 12 = .ok (.invokestatic 120, 3) := by decide +kernel
theorem dX9_claim_15 : decode cX9_claim 15 = .ok (.aload_n 0, 1) := by decide +kernel
theorem dX9_claim_16 : decode cX9_claim 16 = .ok (.getfield 123, 3) := by decide +kernel
theorem dX9_claim_19 : decode cX9_claim 19 = .ok (.bipush 8, 2) := by decide +kernel
theorem dX9_claim_21 : decode cX9_claim 21 = .ok (.if_icmp .ge 15, 3) := by decide +kernel
theorem dX9_claim_24 : decode cX9_claim 24 = .ok (.aload_n 0, 1) := by decide +kernel
theorem dX9_claim_25 : decode cX9_claim 25 = .ok (.getfield 123, 3) := by decide +kernel
theorem dX9_claim_28 : decode cX9_claim 28 = .ok (.aload_n 0, 1) := by decide +kernel
theorem dX9_claim_29 : decode cX9_claim 29 = .ok (.getfield 36, 3) := by decide +kernel
theorem dX9_claim_32 : decode cX9_claim 32 = .ok (.arraylength, 1) := by decide +kernel
theorem dX9_claim_33 : decode cX9_claim 33 = .ok (.if_icmp .lt 13, 3) := by decide +kernel
theorem dX9_claim_36 : decode cX9_claim 36 = .ok (.new 66, 3) := by decide +kernel
theorem dX9_claim_39 : decode cX9_claim 39 = .ok (.dup, 1) := by decide +kernel
theorem dX9_claim_40 : decode cX9_claim 40 = .ok (.ldc 126, 2) := by decide +kernel
theorem dX9_claim_42 : decode cX9_claim 42 = .ok (.invokespecial 70, 3) := by decide +kernel
theorem dX9_claim_45 : decode cX9_claim 45 = .ok (.athrow, 1) := by decide +kernel
theorem dX9_claim_46 : decode cX9_claim 46 = .ok (.new 34, 3) := by decide +kernel
theorem dX9_claim_49 : decode cX9_claim 49 = .ok (.dup, 1) := by decide +kernel
theorem dX9_claim_50 : decode cX9_claim 50 = .ok (.iload_n 1, 1) := by decide +kernel
theorem dX9_claim_51 : decode cX9_claim 51 = .ok (.iload_n 2, 1) := by decide +kernel
theorem dX9_claim_52 : decode cX9_claim 52 = .ok (.iload_n 3, 1) := by decide +kernel
theorem dX9_claim_53 : decode cX9_claim 53 = .ok (.invokespecial 128, 3) := by decide +kernel
theorem dX9_claim_56 : decode cX9_claim 56 = .ok (.astore 5, 2) := by decide +kernel
theorem dX9_claim_58 : decode cX9_claim 58 = .ok (.aload_n 0, 1) := by decide +kernel
theorem dX9_claim_59 : decode cX9_claim 59 = .ok (.getfield 36, 3) := by decide +kernel
theorem dX9_claim_62 : decode cX9_claim 62 = .ok (.aload_n 0, 1) := by decide +kernel
theorem dX9_claim_63 : decode cX9_claim 63 = .ok (.getfield 123, 3) := by decide +kernel
theorem dX9_claim_66 : decode cX9_claim 66 = .ok (.aload 5, 2) := by decide +kernel
theorem dX9_claim_68 : decode cX9_claim 68 = .ok (.aastore, 1) := by decide +kernel
theorem dX9_claim_69 : decode cX9_claim 69 = .ok (.aload_n 0, 1) := by decide +kernel
theorem dX9_claim_70 : decode cX9_claim 70 = .ok (.dup, 1) := by decide +kernel
theorem dX9_claim_71 : decode cX9_claim 71 = .ok (.getfield 123, 3) := by decide +kernel
theorem dX9_claim_74 : decode cX9_claim 74 = .ok (.iconst 1, 1) := by decide +kernel
theorem dX9_claim_75 : decode cX9_claim 75 = .ok (.iadd, 1) := by decide +kernel
theorem dX9_claim_76 : decode cX9_claim 76 = .ok (.putfield 123, 3) := by decide +kernel
theorem dX9_claim_79 : decode cX9_claim 79 = .ok (.aload 4, 2) := by decide +kernel
theorem dX9_claim_81 : decode cX9_claim 81 = .ok (.iconst 1, 1) := by decide +kernel
theorem dX9_claim_82 : decode cX9_claim 82 = .ok (.putfield 82, 3) := by decide +kernel
theorem dX9_claim_85 : decode cX9_claim 85 = .ok (.aload_n 0, 1) := by decide +kernel
theorem dX9_claim_86 : decode cX9_claim 86 = .ok (.aload 5, 2) := by decide +kernel
theorem dX9_claim_88 : decode cX9_claim 88 = .ok (.aload 4, 2) := by decide +kernel
theorem dX9_claim_90 : decode cX9_claim 90 = .ok (.invokevirtual 131, 3) := by decide +kernel
theorem dX9_claim_93 : decode cX9_claim 93 = .ok (.pop, 1) := by decide +kernel
theorem dX9_claim_94 : decode cX9_claim 94 = .ok (.aload_n 0, 1) := by decide +kernel
theorem dX9_claim_95 : decode cX9_claim 95 = .ok (.getfield 123, 3) := by decide +kernel
theorem dX9_claim_98 : decode cX9_claim 98 = .ok (.iconst 1, 1) := by decide +kernel
theorem dX9_claim_99 : decode cX9_claim 99 = .ok (.isub, 1) := by decide +kernel
theorem dX9_claim_100 : decode cX9_claim 100 = .ok (.ireturn, 1) := by decide +kernel
theorem dX9_send_0 : decode cX9_send 0 = .ok (.aload_n 0, 1) := by decide +kernel
theorem dX9_send_1 : decode cX9_send 1 = .ok (.iload_n 1, 1) := by decide +kernel
theorem dX9_send_2 : decode cX9_send 2 = .ok (.invokevirtual 135, 3) := by decide +kernel
theorem dX9_send_5 : decode cX9_send 5 = .ok (.astore 4, 2) := by decide +kernel
theorem dX9_send_7 : decode cX9_send 7 = .ok (.aload_n 0, 1) := by decide +kernel
theorem dX9_send_8 : decode cX9_send 8 = .ok (.iload_n 2, 1) := by decide +kernel
theorem dX9_send_9 : decode cX9_send 9 = .ok (.invokevirtual 73, 3) := by decide +kernel
theorem dX9_send_12 : decode cX9_send 12 = .ok (.astore 5, 2) := by decide +kernel
theorem dX9_send_14 : decode cX9_send 14 = .ok (.iload_n 3, 1) := by decide +kernel
theorem dX9_send_15 : decode cX9_send 15 = .ok (.iconst 1, 1) := by decide +kernel
theorem dX9_send_16 : decode cX9_send 16 = .ok (.if_icmp .lt 9, 3) := by decide +kernel
theorem dX9_send_19 : decode cX9_send 19 = .ok (.iload_n 3, 1) := by decide +kernel
theorem dX9_send_20 : decode cX9_send 20 = .ok (.bipush 60, 2) := by decide +kernel
theorem dX9_send_22 : decode cX9_send 22 = .ok (.if_icmp .le 13, 3) := by decide +kernel
theorem dX9_send_25 : decode cX9_send 25 = .ok (.new 48, 3) := by decide +kernel
theorem dX9_send_28 : decode cX9_send 28 = .ok (.dup, 1) := by decide +kernel
theorem dX9_send_29 : decode cX9_send 29 = .ok (.ldc 139, 2) := by decide +kernel
theorem dX9_send_31 : decode cX9_send 31 = .ok (.invokespecial 52, 3) := by decide +kernel
theorem dX9_send_34 : decode cX9_send 34 = .ok (.athrow, 1) := by decide +kernel
theorem dX9_send_35 : decode cX9_send 35 = .ok (.aload 5, 2) := by decide +kernel
theorem dX9_send_37 : decode cX9_send 37 = .ok (.getfield 141, 3) := by decide +kernel
theorem dX9_send_40 : decode cX9_send 40 = .ok (.aload 4, 2) := by decide +kernel
theorem dX9_send_42 : decode cX9_send 42 = .ok (.getfield 144, 3) := by decide +kernel
theorem dX9_send_45 : decode cX9_send 45 = .ok (.if_icmp .eq 13, 3) := by decide +kernel
theorem dX9_send_48 : decode cX9_send 48 = .ok (.new 66, 3) := by decide +kernel
theorem dX9_send_51 : decode cX9_send 51 = .ok (.dup, 1) := by decide +kernel
theorem dX9_send_52 : decode cX9_send 52 = .ok (.ldc 147, 2) := by decide +kernel
theorem dX9_send_54 : decode cX9_send 54 = .ok (.invokespecial 70, 3) := by decide +kernel
theorem dX9_send_57 : decode cX9_send 57 = .ok (.athrow, 1) := by decide +kernel
theorem dX9_send_58 : decode cX9_send 58 = .ok (.aload 5, 2) := by decide +kernel
theorem dX9_send_60 : decode cX9_send 60 = .ok (.invokevirtual 149, 3) := by decide +kernel
theorem dX9_send_63 : decode cX9_send 63 = .ok (.ifCond .ne 18, 3) := by decide +kernel
theorem dX9_send_66 : decode cX9_send 66 = .ok (.iload_n 3, 1) := by decide +kernel
theorem dX9_send_67 : decode cX9_send 67 = .ok (.iconst 1, 1) := by decide +kernel
theorem dX9_send_68 : decode cX9_send 68 = .ok (.if_icmp .le 13, 3) := by decide +kernel
theorem dX9_send_71 : decode cX9_send 71 = .ok (.new 66, 3) := by decide +kernel
theorem dX9_send_74 : decode cX9_send 74 = .ok (.dup, 1) := by decide +kernel
theorem dX9_send_75 : decode cX9_send 75 = .ok (.ldc 153, 2) := by decide +kernel
theorem dX9_send_77 : decode cX9_send 77 = .ok (.invokespecial 70, 3) := by decide +kernel
theorem dX9_send_80 : decode cX9_send 80 = .ok (.athrow, 1) := by decide +kernel
theorem dX9_send_81 : decode cX9_send 81 = .ok (.iconst 0, 1) := by decide +kernel
theorem dX9_send_82 : decode cX9_send 82 = .ok (.istore 6, 2) := by decide +kernel
theorem dX9_send_84 : decode cX9_send 84 = .ok (.iload 6, 2) := by decide +kernel
theorem dX9_send_86 : decode cX9_send 86 = .ok (.iload_n 3, 1) := by decide +kernel
theorem dX9_send_87 : decode cX9_send 87 = .ok (.if_icmp .ge 43, 3) := by decide +kernel
theorem dX9_send_90 : decode cX9_send 90 = .ok (.aload 4, 2) := by decide +kernel
theorem dX9_send_92 : decode cX9_send 92 = .ok (.aload 5, 2) := by decide +kernel
theorem dX9_send_94 : decode cX9_send 94 = .ok (.getfield 98, 3) := by decide +kernel
theorem dX9_send_97 : decode cX9_send 97 = .ok (.aload_n 0, 1) := by decide +kernel
theorem dX9_send_98 : decode cX9_send 98 = .ok (.getfield 44, 3) := by decide +kernel
theorem dX9_send_101 : decode cX9_send 101 = .ok (.aload 5, 2) := by decide +kernel
theorem dX9_send_103 : decode cX9_send 103 = .ok (.aload 4, 2) := by decide +kernel
theorem dX9_send_105 : decode cX9_send 105 = .ok (.getfield 155, 3) := by decide +kernel
theorem dX9_send_108 : decode cX9_send 108 = .ok (.invokevirtual 158, 3) := by decide +kernel
theorem dX9_send_111 : decode cX9_send 111 = .ok (.invokevirtual 162, 3) := by decide +kernel
theorem dX9_send_114 : decode cX9_send 114 = .ok (.aload_n 0, 1) := by decide +kernel
theorem dX9_send_115 : decode cX9_send 115 = .ok (.dup, 1) := by decide +kernel
theorem dX9_send_116 : decode cX9_send 116 = .ok (.getfield 165, 3) := by decide +kernel
theorem dX9_send_119 : decode cX9_send 119 = .ok (.iconst 1, 1) := by decide +kernel
theorem dX9_send_120 : decode cX9_send 120 = .ok (.iadd, 1) := by decide +kernel
theorem dX9_send_121 : decode cX9_send 121 = .ok (.putfield 165, 3) := by decide +kernel
theorem dX9_send_124 : decode cX9_send 124 = .ok (.iinc 6 1, 3) := by decide +kernel
theorem dX9_send_127 : decode cX9_send 127 = .ok (.goto (-43), 3) := by decide +kernel
theorem dX9_send_130 : decode cX9_send 130 = .ok (.aload_n 0, 1) := by decide +kernel
theorem dX9_send_131 : decode cX9_send 131 = .ok (.getfield 44, 3) := by decide +kernel
theorem dX9_send_134 : decode cX9_send 134 = .ok (.aload 4, 2) := by decide +kernel
theorem dX9_send_136 : decode cX9_send 136 = .ok (.getfield 144, 3) := by decide +kernel
theorem dX9_send_139 : decode cX9_send 139 = .ok (.aload 4, 2) := by decide +kernel
theorem dX9_send_141 : decode cX9_send 141 = .ok (.getfield 155, 3) := by decide +kernel
theorem dX9_send_144 : decode cX9_send 144 = .ok (.invokevirtual 168, 3) := by decide +kernel
theorem dX9_send_147 : decode cX9_send 147 = .ok (.ireturn, 1) := by decide +kernel
theorem dX9_trial_0 : decode cX9_trial 0 = .ok (.aload_n 0, 1) := by decide +kernel
theorem dX9_trial_1 : decode cX9_trial 1 = .ok (.iload_n 1, 1) := by decide +kernel
theorem dX9_trial_2 : decode cX9_trial 2 = .ok (.invokevirtual 171, 3) := by decide +kernel
theorem dX9_trial_5 : decode cX9_trial 5 = .ok (.astore_n 2, 1) := by decide +kernel
theorem dX9_trial_6 : decode cX9_trial 6 = .ok (.aload_n 0, 1) := by decide +kernel
theorem dX9_trial_7 : decode cX9_trial 7 = .ok (.aload_n 2, 1) := by decide +kernel
theorem dX9_trial_8 : decode cX9_trial 8 = .ok (.aload_n 0, 1) := by decide +kernel
theorem dX9_trial_9 : decode cX9_trial 9 = .ok (.aload_n 2, 1) := by decide +kernel
theorem dX9_trial_10 : decode cX9_trial 10 = .ok (.getfield 175, 3) := by decide +kernel
theorem dX9_trial_13 : decode cX9_trial 13 = .ok (.invokevirtual 73, 3) := by decide +kernel
theorem dX9_trial_16 : decode cX9_trial 16 = .ok (.invokevirtual 131, 3) := by decide +kernel
theorem dX9_trial_19 : decode cX9_trial 19 = .ok (.ireturn, 1) := by decide +kernel
theorem dX9_objects_0 : decode cX9_objects 0 = .ok (.iload_n 1, 1) := by decide +kernel
theorem dX9_objects_1 : decode cX9_objects 1 = .ok (.invokestatic 106, 3) := by decide +kernel
theorem dX9_objects_4 : decode cX9_objects 4 = .ok (.aload_n 0, 1) := by decide +kernel
theorem dX9_objects_5 : decode cX9_objects 5 = .ok (.getfield 44, 3) := by decide +kernel
theorem dX9_objects_8 : decode cX9_objects 8 = .ok (.iload_n 1, 1) := by decide +kernel
theorem dX9_objects_9 : decode cX9_objects 9 = .ok (.invokevirtual 178, 3) := by decide +kernel
theorem dX9_objects_12 : decode cX9_objects 12 = .ok (.ireturn, 1) := by decide +kernel
theorem dX9_unrank_0 : decode cX9_unrank 0 = .ok (.aload_n 0, 1) := by decide +kernel
theorem dX9_unrank_1 : decode cX9_unrank 1 = .ok (.iload_n 1, 1) := by decide +kernel
theorem dX9_unrank_2 : decode cX9_unrank 2 = .ok (.iload_n 2, 1) := by decide +kernel
theorem dX9_unrank_3 : decode cX9_unrank 3 = .ok (.invokevirtual 182, 3) := by decide +kernel
theorem dX9_unrank_6 : decode cX9_unrank 6 = .ok (.aload_n 0, 1) := by decide +kernel
theorem dX9_unrank_7 : decode cX9_unrank 7 = .ok (.getfield 44, 3) := by decide +kernel
theorem dX9_unrank_10 : decode cX9_unrank 10 = .ok (.iload_n 1, 1) := by decide +kernel
theorem dX9_unrank_11 : decode cX9_unrank 11 = .ok (.iload_n 2, 1) := by decide +kernel
theorem dX9_unrank_12 : decode cX9_unrank 12 = .ok (.invokevirtual 168, 3) := by decide +kernel
theorem dX9_unrank_15 : decode cX9_unrank 15 = .ok (.ireturn, 1) := by decide +kernel
theorem dX9_rank_0 : decode cX9_rank 0 = .ok (.iload_n 1, 1) := by decide +kernel
theorem dX9_rank_1 : decode cX9_rank 1 = .ok (.invokestatic 106, 3) := by decide +kernel
theorem dX9_rank_4 : decode cX9_rank 4 = .ok (.aload_n 0, 1) := by decide +kernel
theorem dX9_rank_5 : decode cX9_rank 5 = .ok (.getfield 44, 3) := by decide +kernel
theorem dX9_rank_8 : decode cX9_rank 8 = .ok (.iload_n 1, 1) := by decide +kernel
theorem dX9_rank_9 : decode cX9_rank 9 = .ok (.iload_n 2, 1) := by decide +kernel
theorem dX9_rank_10 : decode cX9_rank 10 = .ok (.invokevirtual 109, 3) := by decide +kernel
theorem dX9_rank_13 : decode cX9_rank 13 = .ok (.ireturn, 1) := by decide +kernel
theorem dX9_statistic_0 : decode cX9_statistic 0 = .ok (.aload_n 0, 1) := by decide +kernel
theorem dX9_statistic_1 : decode cX9_statistic 1 = .ok (.iload_n 1, 1) := by decide +kernel
theorem dX9_statistic_2 : decode cX9_statistic 2 = .ok (.iload_n 3, 1) := by decide +kernel
theorem dX9_statistic_3 : decode cX9_statistic 3 = .ok (.invokevirtual 182, 3) := by decide +kernel
theorem dX9_statistic_6 : decode cX9_statistic 6 = .ok (.iload_n 2, 1) := by decide +kernel
theorem dX9_statistic_7 : decode cX9_statistic 7 = .ok (.invokestatic 120, 3) := by decide +kernel
theorem dX9_statistic_10 : decode cX9_statistic 10 = .ok (.aload_n 0, 1) := by decide +kernel
theorem dX9_statistic_11 : decode cX9_statistic 11 = .ok (.getfield 44, 3) := by decide +kernel
theorem dX9_statistic_14 : decode cX9_statistic 14 = .ok (.iload_n 1, 1) := by decide +kernel
theorem dX9_statistic_15 : decode cX9_statistic 15 = .ok (.iload_n 2, 1) := by decide +kernel
theorem dX9_statistic_16 : decode cX9_statistic 16 = .ok (.iload_n 3, 1) := by decide +kernel
theorem dX9_statistic_17 : decode cX9_statistic 17 = .ok (.invokevirtual 185, 3) := by decide +kernel
theorem dX9_statistic_20 : decode cX9_statistic 20 = .ok (.ireturn, 1) := by decide +kernel
theorem dX9_signs_0 : decode cX9_signs 0 = .ok (.iload_n 1, 1) := by decide +kernel
theorem dX9_signs_1 : decode cX9_signs 1 = .ok (.invokestatic 106, 3) := by decide +kernel
theorem dX9_signs_4 : decode cX9_signs 4 = .ok (.iload_n 2, 1) := by decide +kernel
theorem dX9_signs_5 : decode cX9_signs 5 = .ok (.invokestatic 120, 3) := by decide +kernel
theorem dX9_signs_8 : decode cX9_signs 8 = .ok (.iconst 0, 1) := by decide +kernel
theorem dX9_signs_9 : decode cX9_signs 9 = .ok (.istore_n 3, 1) := by decide +kernel
theorem dX9_signs_10 : decode cX9_signs 10 = .ok (.iconst 0, 1) := by decide +kernel
theorem dX9_signs_11 : decode cX9_signs 11 = .ok (.istore 4, 2) := by decide +kernel
theorem dX9_signs_13 : decode cX9_signs 13 = .ok (.iload 4, 2) := by decide +kernel
theorem dX9_signs_15 : decode cX9_signs 15 = .ok (.bipush 36, 2) := by decide +kernel
theorem dX9_signs_17 : decode cX9_signs 17 = .ok (.if_icmp .gt 29, 3) := by decide +kernel
theorem dX9_signs_20 : decode cX9_signs 20 = .ok (.iload_n 3, 1) := by decide +kernel
theorem dX9_signs_21 : decode cX9_signs 21 = .ok (.iload 4, 2) := by decide +kernel
theorem dX9_signs_23 : decode cX9_signs 23 = .ok (.invokestatic 192, 3) := by decide +kernel
theorem dX9_signs_26 : decode cX9_signs 26 = .ok (.aload_n 0, 1) := by decide +kernel
theorem dX9_signs_27 : decode cX9_signs 27 = .ok (.getfield 44, 3) := by decide +kernel
theorem dX9_signs_30 : decode cX9_signs 30 = .ok (.iload_n 1, 1) := by decide +kernel
theorem dX9_signs_31 : decode cX9_signs 31 = .ok (.iload_n 2, 1) := by decide +kernel
theorem dX9_signs_32 : decode cX9_signs 32 = .ok (.iload 4, 2) := by decide +kernel
theorem dX9_signs_34 : decode cX9_signs 34 = .ok (.invokevirtual 189, 3) := by decide +kernel
theorem dX9_signs_37 : decode cX9_signs 37 = .ok (.imul, 1) := by decide +kernel
theorem dX9_signs_38 : decode cX9_signs 38 = .ok (.iadd, 1) := by decide +kernel
theorem dX9_signs_39 : decode cX9_signs 39 = .ok (.istore_n 3, 1) := by decide +kernel
theorem dX9_signs_40 : decode cX9_signs 40 = .ok (.iinc 4 1, 3) := by decide +kernel
theorem dX9_signs_43 : decode cX9_signs 43 = .ok (.goto (-30), 3) := by decide +kernel
theorem dX9_signs_46 : decode cX9_signs 46 = .ok (.iload_n 3, 1) := by decide +kernel
theorem dX9_signs_47 : decode cX9_signs 47 = .ok (.ireturn, 1) := by decide +kernel
theorem dX9_alike_0 : decode cX9_alike 0 = .ok (.iload_n 1, 1) := by decide +kernel
theorem dX9_alike_1 : decode cX9_alike 1 = .ok (.invokestatic 106, 3) := by decide +kernel
theorem dX9_alike_4 : decode cX9_alike 4 = .ok (.iload_n 3, 1) := by decide +kernel
theorem dX9_alike_5 : decode cX9_alike 5 = .ok (.invokestatic 106, 3) := by decide +kernel
theorem dX9_alike_8 : decode cX9_alike 8 = .ok (.iload_n 2, 1) := by decide +kernel
theorem dX9_alike_9 : decode cX9_alike 9 = .ok (.invokestatic 120, 3) := by decide +kernel
theorem dX9_alike_12 : decode cX9_alike 12 = .ok (.iload 4, 2) := by decide +kernel
theorem dX9_alike_14 : decode cX9_alike 14 = .ok (.invokestatic 120, 3) := by decide +kernel
theorem dX9_alike_17 : decode cX9_alike 17 = .ok (.iconst 0, 1) := by decide +kernel
theorem dX9_alike_18 : decode cX9_alike 18 = .ok (.istore 5, 2) := by decide +kernel
theorem dX9_alike_20 : decode cX9_alike 20 = .ok (.iload 5, 2) := by decide +kernel
theorem dX9_alike_22 : decode cX9_alike 22 = .ok (.bipush 36, 2) := by decide +kernel
theorem dX9_alike_24 : decode cX9_alike 24 = .ok (.if_icmp .gt 37, 3) := by decide +kernel
theorem dX9_alike_27 : decode cX9_alike 27 = .ok (.aload_n 0, 1) := by decide +kernel
theorem dX9_alike_28 : decode cX9_alike 28 = .ok (.getfield 44, 3) := by decide +kernel
theorem dX9_alike_31 : decode cX9_alike 31 = .ok (.iload_n 1, 1) := by decide +kernel
theorem dX9_alike_32 : decode cX9_alike 32 = .ok (.iload_n 2, 1) := by decide +kernel
theorem dX9_alike_33 : decode cX9_alike 33 = .ok (.iload 5, 2) := by decide +kernel
theorem dX9_alike_35 : decode cX9_alike 35 = .ok (.invokevirtual 189, 3) := by decide +kernel
theorem dX9_alike_38 : decode cX9_alike 38 = .ok (.aload_n 0, 1) := by decide +kernel
theorem dX9_alike_39 : decode cX9_alike 39 = .ok (.getfield 44, 3) := by decide +kernel
theorem dX9_alike_42 : decode cX9_alike 42 = .ok (.iload_n 3, 1) := by decide +kernel
theorem dX9_alike_43 : decode cX9_alike 43 = .ok (.iload 4, 2) := by decide +kernel
theorem dX9_alike_45 : decode cX9_alike 45 = .ok (.iload 5, 2) := by decide +kernel
theorem dX9_alike_47 : decode cX9_alike 47 = .ok (.invokevirtual 189, 3) := by decide +kernel
theorem dX9_alike_50 : decode cX9_alike 50 = .ok (.if_icmp .eq 5, 3) := by decide +kernel
theorem dX9_alike_53 : decode cX9_alike 53 = .ok (.iconst 0, 1) := by decide +kernel
theorem dX9_alike_54 : decode cX9_alike 54 = .ok (.ireturn, 1) := by decide +kernel
theorem dX9_alike_55 : decode cX9_alike 55 = .ok (.iinc 5 1, 3) := by decide +kernel
theorem dX9_alike_58 : decode cX9_alike 58 = .ok (.goto (-38), 3) := by decide +kernel
theorem dX9_alike_61 : decode cX9_alike 61 = .ok (.iconst 1, 1) := by decide +kernel
theorem dX9_alike_62 : decode cX9_alike 62 = .ok (.ireturn, 1) := by decide +kernel
theorem dX9_sorted_0 : decode cX9_sorted 0 = .ok (.iload_n 1, 1) := by decide +kernel
theorem dX9_sorted_1 : decode cX9_sorted 1 = .ok (.ifCond .lt 9, 3) := by decide +kernel
theorem dX9_sorted_4 : decode cX9_sorted 4 = .ok (.iload_n 1, 1) := by decide +kernel
theorem dX9_sorted_5 : decode cX9_sorted 5 = .ok (.bipush 6, 2) := by decide +kernel
theorem dX9_sorted_7 : decode cX9_sorted 7 = .ok (.if_icmp .le 13, 3) := by decide +kernel
theorem dX9_sorted_10 : decode cX9_sorted 10 = .ok (.new 48, 3) := by decide +kernel
theorem dX9_sorted_13 : decode cX9_sorted 13 = .ok (.dup, 1) := by decide +kernel
theorem dX9_sorted_14 : decode cX9_sorted 14 = .ok (.ldc 209, 2) := by decide +kernel
theorem dX9_sorted_16 : decode cX9_sorted 16 = .ok (.invokespecial 52, 3) := by decide +kernel
theorem dX9_sorted_19 : decode cX9_sorted 19 = .ok (.athrow, 1) := by decide +kernel
theorem dX9_sorted_20 : decode cX9_sorted 20 = .ok (.iconst 0, 1) := by decide +kernel
theorem dX9_sorted_21 : decode cX9_sorted 21 = .ok (.istore_n 2, 1) := by decide +kernel
theorem dX9_sorted_22 : decode cX9_sorted 22 = .ok (.iconst 0, 1) := by decide +kernel
theorem dX9_sorted_23 : decode cX9_sorted 23 = .ok (.istore_n 3, 1) := by decide +kernel
theorem dX9_sorted_24 : decode cX9_sorted 24 = .ok (.iload_n 3, 1) := by decide +kernel
theorem dX9_sorted_25 : decode cX9_sorted 25 = .ok (.aload_n 0, 1) := by decide +kernel
theorem dX9_sorted_26 : decode cX9_sorted 26 = .ok (.getfield 44, 3) := by decide +kernel
theorem dX9_sorted_29 : decode cX9_sorted 29 = .ok (.iconst 2, 1) := by decide +kernel
theorem dX9_sorted_30 : decode cX9_sorted 30 = .ok (.invokevirtual 178, 3) := by decide +kernel
theorem dX9_sorted_33 : decode cX9_sorted 33 = .ok (.if_icmp .ge 24, 3) := by decide +kernel
theorem dX9_sorted_36 : decode cX9_sorted 36 = .ok (.aload_n 0, 1) := by decide +kernel
theorem dX9_sorted_37 : decode cX9_sorted 37 = .ok (.getfield 44, 3) := by decide +kernel
theorem dX9_sorted_40 : decode cX9_sorted 40 = .ok (.iload_n 3, 1) := by decide +kernel
theorem dX9_sorted_41 : decode cX9_sorted 41 = .ok (.iload_n 1, 1) := by decide +kernel
theorem dX9_sorted_42 : decode cX9_sorted 42 = .ok (.invokevirtual 211, 3) := by decide +kernel
theorem dX9_sorted_45 : decode cX9_sorted 45 = .ok (.ifCond .eq 6, 3) := by decide +kernel
theorem dX9_sorted_48 : decode cX9_sorted 48 = .ok (.iinc 2 1, 3) := by decide +kernel
theorem dX9_sorted_51 : decode cX9_sorted 51 = .ok (.iinc 3 1, 3) := by decide +kernel
theorem dX9_sorted_54 : decode cX9_sorted 54 = .ok (.goto (-30), 3) := by decide +kernel
theorem dX9_sorted_57 : decode cX9_sorted 57 = .ok (.iload_n 2, 1) := by decide +kernel
theorem dX9_sorted_58 : decode cX9_sorted 58 = .ok (.ireturn, 1) := by decide +kernel
theorem dX9_ofMap_0 : decode cX9_ofMap 0 = .ok (.aload_n 0, 1) := by decide +kernel
theorem dX9_ofMap_1 : decode cX9_ofMap 1 = .ok (.iload_n 1, 1) := by decide +kernel
theorem dX9_ofMap_2 : decode cX9_ofMap 2 = .ok (.invokevirtual 73, 3) := by decide +kernel
theorem dX9_ofMap_5 : decode cX9_ofMap 5 = .ok (.astore_n 3, 1) := by decide +kernel
theorem dX9_ofMap_6 : decode cX9_ofMap 6 = .ok (.iload_n 2, 1) := by decide +kernel
theorem dX9_ofMap_7 : decode cX9_ofMap 7 = .ok (.ifCond .lt 9, 3) := by decide +kernel
theorem dX9_ofMap_10 : decode cX9_ofMap 10 = .ok (.iload_n 2, 1) := by decide +kernel
theorem dX9_ofMap_11 : decode cX9_ofMap 11 = .ok (.bipush 8, 2) := by decide +kernel
theorem dX9_ofMap_13 : decode cX9_ofMap 13 = .ok (.if_icmp .lt 13, 3) := by decide +kernel
theorem dX9_ofMap_16 : decode cX9_ofMap 16 = .ok (.new 48, 3) := by decide +kernel
theorem dX9_ofMap_19 : decode cX9_ofMap 19 = .ok (.dup, 1) := by decide +kernel
theorem dX9_ofMap_20 : decode cX9_ofMap 20 = .ok (.ldc 215, 2) := by decide +kernel
theorem dX9_ofMap_22 : decode cX9_ofMap 22 = .ok (.invokespecial 52, 3) := by decide +kernel
theorem dX9_ofMap_25 : decode cX9_ofMap 25 = .ok (.athrow, 1) := by decide +kernel
theorem dX9_ofMap_26 : decode cX9_ofMap 26 = .ok (.aload_n 0, 1) := by decide +kernel
theorem dX9_ofMap_27 : decode cX9_ofMap 27 = .ok (.getfield 18, 3) := by decide +kernel
theorem dX9_ofMap_30 : decode cX9_ofMap 30 = .ok (.aload_n 3, 1) := by decide +kernel
theorem dX9_ofMap_31 : decode cX9_ofMap 31 = .ok (.aload_n 0, 1) := by decide +kernel
theorem dX9_ofMap_32 : decode cX9_ofMap 32 = .ok (.getfield 44, 3) := by decide +kernel
theorem dX9_ofMap_35 : decode cX9_ofMap 35 = .ok (.invokevirtual 217, 3) := by decide +kernel
theorem dX9_ofMap_38 : decode cX9_ofMap 38 = .ok (.iload_n 2, 1) := by decide +kernel
theorem dX9_ofMap_39 : decode cX9_ofMap 39 = .ok (.tableswitch 114 0 6 #[41, 46, 51, 56, 80, 104, 109], 41) := by decide +kernel
theorem dX9_ofMap_80 : decode cX9_ofMap 80 = .ok (.aload_n 3, 1) := by decide +kernel
theorem dX9_ofMap_81 : decode cX9_ofMap 81 = .ok (.getfield 141, 3) := by decide +kernel
theorem dX9_ofMap_84 : decode cX9_ofMap 84 = .ok (.ireturn, 1) := by decide +kernel
theorem dX9_ofMap_85 : decode cX9_ofMap 85 = .ok (.aload_n 3, 1) := by decide +kernel
theorem dX9_ofMap_86 : decode cX9_ofMap 86 = .ok (.getfield 98, 3) := by decide +kernel
theorem dX9_ofMap_89 : decode cX9_ofMap 89 = .ok (.ireturn, 1) := by decide +kernel
theorem dX9_ofMap_90 : decode cX9_ofMap 90 = .ok (.aload_n 3, 1) := by decide +kernel
theorem dX9_ofMap_91 : decode cX9_ofMap 91 = .ok (.getfield 77, 3) := by decide +kernel
theorem dX9_ofMap_94 : decode cX9_ofMap 94 = .ok (.ireturn, 1) := by decide +kernel
theorem dX9_ofMap_95 : decode cX9_ofMap 95 = .ok (.aload_n 3, 1) := by decide +kernel
theorem dX9_ofMap_96 : decode cX9_ofMap 96 = .ok (.getfield 221, 3) := by decide +kernel
theorem dX9_ofMap_99 : decode cX9_ofMap 99 = .ok (.aload_n 0, 1) := by decide +kernel
theorem dX9_ofMap_100 : decode cX9_ofMap 100 = .ok (.getfield 44, 3) := by decide +kernel
theorem dX9_ofMap_103 : decode cX9_ofMap 103 = .ok (.aload_n 3, 1) := by decide +kernel
theorem dX9_ofMap_104 : decode cX9_ofMap 104 = .ok (.getfield 141, 3) := by decide +kernel
theorem dX9_ofMap_107 : decode cX9_ofMap 107 = .ok (.invokevirtual 178, 3) := by decide +kernel
theorem dX9_ofMap_110 : decode cX9_ofMap 110 = .ok (.if_icmp .ne 7, 3) := by decide +kernel
theorem dX9_ofMap_113 : decode cX9_ofMap 113 = .ok (.iconst 1, 1) := by decide +kernel
theorem dX9_ofMap_114 : decode cX9_ofMap 114 = .ok (.goto 4, 3) := by decide +kernel
theorem dX9_ofMap_117 : decode cX9_ofMap 117 = .ok (.iconst 0, 1) := by decide +kernel
theorem dX9_ofMap_118 : decode cX9_ofMap 118 = .ok (.ireturn, 1) := by decide +kernel
theorem dX9_ofMap_119 : decode cX9_ofMap 119 = .ok (.aload_n 3, 1) := by decide +kernel
theorem dX9_ofMap_120 : decode cX9_ofMap 120 = .ok (.getfield 221, 3) := by decide +kernel
theorem dX9_ofMap_123 : decode cX9_ofMap 123 = .ok (.aload_n 0, 1) := by decide +kernel
theorem dX9_ofMap_124 : decode cX9_ofMap 124 = .ok (.getfield 44, 3) := by decide +kernel
theorem dX9_ofMap_127 : decode cX9_ofMap 127 = .ok (.aload_n 3, 1) := by decide +kernel
theorem dX9_ofMap_128 : decode cX9_ofMap 128 = .ok (.getfield 98, 3) := by decide +kernel
theorem dX9_ofMap_131 : decode cX9_ofMap 131 = .ok (.invokevirtual 178, 3) := by decide +kernel
theorem dX9_ofMap_134 : decode cX9_ofMap 134 = .ok (.if_icmp .ne 7, 3) := by decide +kernel
theorem dX9_ofMap_137 : decode cX9_ofMap 137 = .ok (.iconst 1, 1) := by decide +kernel
theorem dX9_ofMap_138 : decode cX9_ofMap 138 = .ok (.goto 4, 3) := by decide +kernel
theorem dX9_ofMap_141 : decode cX9_ofMap 141 = .ok (.iconst 0, 1) := by decide +kernel
theorem dX9_ofMap_142 : decode cX9_ofMap 142 = .ok (.ireturn, 1) := by decide +kernel
theorem dX9_ofMap_143 : decode cX9_ofMap 143 = .ok (.aload_n 3, 1) := by decide +kernel
theorem dX9_ofMap_144 : decode cX9_ofMap 144 = .ok (.getfield 221, 3) := by decide +kernel
theorem dX9_ofMap_147 : decode cX9_ofMap 147 = .ok (.ireturn, 1) := by decide +kernel
theorem dX9_ofMap_148 : decode cX9_ofMap 148 = .ok (.aload_n 3, 1) := by decide +kernel
theorem dX9_ofMap_149 : decode cX9_ofMap 149 = .ok (.getfield 224, 3) := by decide +kernel
theorem dX9_ofMap_152 : decode cX9_ofMap 152 = .ok (.ireturn, 1) := by decide +kernel
theorem dX9_ofMap_153 : decode cX9_ofMap 153 = .ok (.aload_n 3, 1) := by decide +kernel
theorem dX9_ofMap_154 : decode cX9_ofMap 154 = .ok (.getfield 82, 3) := by decide +kernel
theorem dX9_ofMap_157 : decode cX9_ofMap 157 = .ok (.ifCond .eq 7, 3) := by decide +kernel
theorem dX9_ofMap_160 : decode cX9_ofMap 160 = .ok (.iconst 1, 1) := by decide +kernel
theorem dX9_ofMap_161 : decode cX9_ofMap 161 = .ok (.goto 4, 3) := by decide +kernel
theorem dX9_ofMap_164 : decode cX9_ofMap 164 = .ok (.iconst 0, 1) := by decide +kernel
theorem dX9_ofMap_165 : decode cX9_ofMap 165 = .ok (.ireturn, 1) := by decide +kernel
theorem dX9_image_0 : decode cX9_image 0 = .ok (.aload_n 0, 1) := by decide +kernel
theorem dX9_image_1 : decode cX9_image 1 = .ok (.iload_n 1, 1) := by decide +kernel
theorem dX9_image_2 : decode cX9_image 2 = .ok (.invokevirtual 73, 3) := by decide +kernel
theorem dX9_image_5 : decode cX9_image 5 = .ok (.astore_n 3, 1) := by decide +kernel
theorem dX9_image_6 : decode cX9_image 6 = .ok (.aload_n 0, 1) := by decide +kernel
theorem dX9_image_7 : decode cX9_image 7 = .ok (.aload_n 3, 1) := by decide +kernel
theorem dX9_image_8 : decode cX9_image 8 = .ok (.getfield 141, 3) := by decide +kernel
theorem dX9_image_11 : decode cX9_image 11 = .ok (.iload_n 2, 1) := by decide +kernel
theorem dX9_image_12 : decode cX9_image 12 = .ok (.invokevirtual 182, 3) := by decide +kernel
theorem dX9_image_15 : decode cX9_image 15 = .ok (.aload_n 0, 1) := by decide +kernel
theorem dX9_image_16 : decode cX9_image 16 = .ok (.getfield 44, 3) := by decide +kernel
theorem dX9_image_19 : decode cX9_image 19 = .ok (.aload_n 3, 1) := by decide +kernel
theorem dX9_image_20 : decode cX9_image 20 = .ok (.iload_n 2, 1) := by decide +kernel
theorem dX9_image_21 : decode cX9_image 21 = .ok (.invokevirtual 158, 3) := by decide +kernel
theorem dX9_image_24 : decode cX9_image 24 = .ok (.ireturn, 1) := by decide +kernel
theorem dX9_source_0 : decode cX9_source 0 = .ok (.aload_n 0, 1) := by decide +kernel
theorem dX9_source_1 : decode cX9_source 1 = .ok (.iload_n 1, 1) := by decide +kernel
theorem dX9_source_2 : decode cX9_source 2 = .ok (.invokevirtual 73, 3) := by decide +kernel
theorem dX9_source_5 : decode cX9_source 5 = .ok (.astore_n 3, 1) := by decide +kernel
theorem dX9_source_6 : decode cX9_source 6 = .ok (.aload_n 0, 1) := by decide +kernel
theorem dX9_source_7 : decode cX9_source 7 = .ok (.aload_n 3, 1) := by decide +kernel
theorem dX9_source_8 : decode cX9_source 8 = .ok (.getfield 98, 3) := by decide +kernel
theorem dX9_source_11 : decode cX9_source 11 = .ok (.iload_n 2, 1) := by decide +kernel
theorem dX9_source_12 : decode cX9_source 12 = .ok (.invokevirtual 182, 3) := by decide +kernel
theorem dX9_source_15 : decode cX9_source 15 = .ok (.iconst 0, 1) := by decide +kernel
theorem dX9_source_16 : decode cX9_source 16 = .ok (.istore 4, 2) := by decide +kernel
theorem dX9_source_18 : decode cX9_source 18 = .ok (.iload 4, 2) := by decide +kernel
theorem dX9_source_20 : decode cX9_source 20 = .ok (.aload_n 0, 1) := by decide +kernel
theorem dX9_source_21 : decode cX9_source 21 = .ok (.getfield 44, 3) := by decide +kernel
theorem dX9_source_24 : decode cX9_source 24 = .ok (.aload_n 3, 1) := by decide +kernel
theorem dX9_source_25 : decode cX9_source 25 = .ok (.getfield 141, 3) := by decide +kernel
theorem dX9_source_28 : decode cX9_source 28 = .ok (.invokevirtual 178, 3) := by decide +kernel
theorem dX9_source_31 : decode cX9_source 31 = .ok (.if_icmp .ge 26, 3) := by decide +kernel
theorem dX9_source_34 : decode cX9_source 34 = .ok (.aload_n 0, 1) := by decide +kernel
theorem dX9_source_35 : decode cX9_source 35 = .ok (.getfield 44, 3) := by decide +kernel
theorem dX9_source_38 : decode cX9_source 38 = .ok (.aload_n 3, 1) := by decide +kernel
theorem dX9_source_39 : decode cX9_source 39 = .ok (.iload 4, 2) := by decide +kernel
theorem dX9_source_41 : decode cX9_source 41 = .ok (.invokevirtual 158, 3) := by decide +kernel
theorem dX9_source_44 : decode cX9_source 44 = .ok (.iload_n 2, 1) := by decide +kernel
theorem dX9_source_45 : decode cX9_source 45 = .ok (.if_icmp .ne 6, 3) := by decide +kernel
theorem dX9_source_48 : decode cX9_source 48 = .ok (.iload 4, 2) := by decide +kernel
theorem dX9_source_50 : decode cX9_source 50 = .ok (.ireturn, 1) := by decide +kernel
theorem dX9_source_51 : decode cX9_source 51 = .ok (.iinc 4 1, 3) := by decide +kernel
theorem dX9_source_54 : decode cX9_source 54 = .ok (.goto (-36), 3) := by decide +kernel
theorem dX9_source_57 : decode cX9_source 57 = .ok (.iconst (-1), 1) := by decide +kernel
theorem dX9_source_58 : decode cX9_source 58 = .ok (.ireturn, 1) := by decide +kernel
theorem dX9_rounds_0 : decode cX9_rounds 0 = .ok (.aload_n 0, 1) := by decide +kernel
theorem dX9_rounds_1 : decode cX9_rounds 1 = .ok (.iload_n 1, 1) := by decide +kernel
theorem dX9_rounds_2 : decode cX9_rounds 2 = .ok (.invokevirtual 73, 3) := by decide +kernel
theorem dX9_rounds_5 : decode cX9_rounds 5 = .ok (.astore_n 2, 1) := by decide +kernel
theorem dX9_rounds_6 : decode cX9_rounds 6 = .ok (.aload_n 0, 1) := by decide +kernel
theorem dX9_rounds_7 : decode cX9_rounds 7 = .ok (.getfield 18, 3) := by decide +kernel
theorem dX9_rounds_10 : decode cX9_rounds 10 = .ok (.aload_n 2, 1) := by decide +kernel
theorem dX9_rounds_11 : decode cX9_rounds 11 = .ok (.aload_n 0, 1) := by decide +kernel
theorem dX9_rounds_12 : decode cX9_rounds 12 = .ok (.getfield 44, 3) := by decide +kernel
theorem dX9_rounds_15 : decode cX9_rounds 15 = .ok (.invokevirtual 217, 3) := by decide +kernel
theorem dX9_rounds_18 : decode cX9_rounds 18 = .ok (.aload_n 2, 1) := by decide +kernel
theorem dX9_rounds_19 : decode cX9_rounds 19 = .ok (.getfield 227, 3) := by decide +kernel
theorem dX9_rounds_22 : decode cX9_rounds 22 = .ok (.ireturn, 1) := by decide +kernel
theorem dX9_period_0 : decode cX9_period 0 = .ok (.aload_n 0, 1) := by decide +kernel
theorem dX9_period_1 : decode cX9_period 1 = .ok (.iload_n 1, 1) := by decide +kernel
theorem dX9_period_2 : decode cX9_period 2 = .ok (.invokevirtual 73, 3) := by decide +kernel
theorem dX9_period_5 : decode cX9_period 5 = .ok (.astore_n 2, 1) := by decide +kernel
theorem dX9_period_6 : decode cX9_period 6 = .ok (.aload_n 0, 1) := by decide +kernel
theorem dX9_period_7 : decode cX9_period 7 = .ok (.getfield 18, 3) := by decide +kernel
theorem dX9_period_10 : decode cX9_period 10 = .ok (.aload_n 2, 1) := by decide +kernel
theorem dX9_period_11 : decode cX9_period 11 = .ok (.aload_n 0, 1) := by decide +kernel
theorem dX9_period_12 : decode cX9_period 12 = .ok (.getfield 44, 3) := by decide +kernel
theorem dX9_period_15 : decode cX9_period 15 = .ok (.invokevirtual 217, 3) := by decide +kernel
theorem dX9_period_18 : decode cX9_period 18 = .ok (.aload_n 2, 1) := by decide +kernel
theorem dX9_period_19 : decode cX9_period 19 = .ok (.getfield 230, 3) := by decide +kernel
theorem dX9_period_22 : decode cX9_period 22 = .ok (.lreturn, 1) := by decide +kernel
theorem dX9_against_0 : decode cX9_against 0 = .ok (.aload_n 0, 1) := by decide +kernel
theorem dX9_against_1 : decode cX9_against 1 = .ok (.iload_n 1, 1) := by decide +kernel
theorem dX9_against_2 : decode cX9_against 2 = .ok (.invokevirtual 73, 3) := by decide +kernel
theorem dX9_against_5 : decode cX9_against 5 = .ok (.astore 4, 2) := by decide +kernel
theorem dX9_against_7 : decode cX9_against 7 = .ok (.iload_n 2, 1) := by decide +kernel
theorem dX9_against_8 : decode cX9_against 8 = .ok (.invokestatic 120, 3) := by decide +kernel
theorem dX9_against_11 : decode cX9_against 11 = .ok (.iload_n 3, 1) := by decide +kernel
theorem dX9_against_12 : decode cX9_against 12 = .ok (.invokestatic 120, 3) := by decide +kernel
theorem dX9_against_15 : decode cX9_against 15 = .ok (.aload_n 0, 1) := by decide +kernel
theorem dX9_against_16 : decode cX9_against 16 = .ok (.aload 4, 2) := by decide +kernel
theorem dX9_against_18 : decode cX9_against 18 = .ok (.iload_n 2, 1) := by decide +kernel
theorem dX9_against_19 : decode cX9_against 19 = .ok (.iload_n 3, 1) := by decide +kernel
theorem dX9_against_20 : decode cX9_against 20 = .ok (.invokevirtual 234, 3) := by decide +kernel
theorem dX9_against_23 : decode cX9_against 23 = .ok (.ireturn, 1) := by decide +kernel
theorem dX9_cancels_0 : decode cX9_cancels 0 = .ok (.aload_n 0, 1) := by decide +kernel
theorem dX9_cancels_1 : decode cX9_cancels 1 = .ok (.iload_n 1, 1) := by decide +kernel
theorem dX9_cancels_2 : decode cX9_cancels 2 = .ok (.invokevirtual 73, 3) := by decide +kernel
theorem dX9_cancels_5 : decode cX9_cancels 5 = .ok (.astore_n 3, 1) := by decide +kernel
theorem dX9_cancels_6 : decode cX9_cancels 6 = .ok (.iload_n 2, 1) := by decide +kernel
theorem dX9_cancels_7 : decode cX9_cancels 7 = .ok (.invokestatic 120, 3) := by decide +kernel
theorem dX9_cancels_10 : decode cX9_cancels 10 = .ok (.aload_n 3, 1) := by decide +kernel
theorem dX9_cancels_11 : decode cX9_cancels 11 = .ok (.invokevirtual 149, 3) := by decide +kernel
theorem dX9_cancels_14 : decode cX9_cancels 14 = .ok (.ifCond .ne 5, 3) := by decide +kernel
theorem dX9_cancels_17 : decode cX9_cancels 17 = .ok (.iconst 0, 1) := by decide +kernel
theorem dX9_cancels_18 : decode cX9_cancels 18 = .ok (.ireturn, 1) := by decide +kernel
theorem dX9_cancels_19 : decode cX9_cancels 19 = .ok (.iconst 0, 1) := by decide +kernel
theorem dX9_cancels_20 : decode cX9_cancels 20 = .ok (.istore 4, 2) := by decide +kernel
theorem dX9_cancels_22 : decode cX9_cancels 22 = .ok (.iload 4, 2) := by decide +kernel
theorem dX9_cancels_24 : decode cX9_cancels 24 = .ok (.aload_n 0, 1) := by decide +kernel
theorem dX9_cancels_25 : decode cX9_cancels 25 = .ok (.getfield 44, 3) := by decide +kernel
theorem dX9_cancels_28 : decode cX9_cancels 28 = .ok (.aload_n 3, 1) := by decide +kernel
theorem dX9_cancels_29 : decode cX9_cancels 29 = .ok (.getfield 141, 3) := by decide +kernel
theorem dX9_cancels_32 : decode cX9_cancels 32 = .ok (.invokevirtual 178, 3) := by decide +kernel
theorem dX9_cancels_35 : decode cX9_cancels 35 = .ok (.if_icmp .ge 22, 3) := by decide +kernel
theorem dX9_cancels_38 : decode cX9_cancels 38 = .ok (.aload_n 0, 1) := by decide +kernel
theorem dX9_cancels_39 : decode cX9_cancels 39 = .ok (.aload_n 3, 1) := by decide +kernel
theorem dX9_cancels_40 : decode cX9_cancels 40 = .ok (.iload_n 2, 1) := by decide +kernel
theorem dX9_cancels_41 : decode cX9_cancels 41 = .ok (.iload 4, 2) := by decide +kernel
theorem dX9_cancels_43 : decode cX9_cancels 43 = .ok (.invokevirtual 238, 3) := by decide +kernel
theorem dX9_cancels_46 : decode cX9_cancels 46 = .ok (.ifCond .ne 5, 3) := by decide +kernel
theorem dX9_cancels_49 : decode cX9_cancels 49 = .ok (.iconst 0, 1) := by decide +kernel
theorem dX9_cancels_50 : decode cX9_cancels 50 = .ok (.ireturn, 1) := by decide +kernel
theorem dX9_cancels_51 : decode cX9_cancels 51 = .ok (.iinc 4 1, 3) := by decide +kernel
theorem dX9_cancels_54 : decode cX9_cancels 54 = .ok (.goto (-32), 3) := by decide +kernel
theorem dX9_cancels_57 : decode cX9_cancels 57 = .ok (.iconst 1, 1) := by decide +kernel
theorem dX9_cancels_58 : decode cX9_cancels 58 = .ok (.ireturn, 1) := by decide +kernel
theorem dX9_ofWalker_0 : decode cX9_ofWalker 0 = .ok (.aload_n 0, 1) := by decide +kernel
theorem dX9_ofWalker_1 : decode cX9_ofWalker 1 = .ok (.iload_n 1, 1) := by decide +kernel
theorem dX9_ofWalker_2 : decode cX9_ofWalker 2 = .ok (.invokevirtual 135, 3) := by decide +kernel
theorem dX9_ofWalker_5 : decode cX9_ofWalker 5 = .ok (.astore_n 3, 1) := by decide +kernel
theorem dX9_ofWalker_6 : decode cX9_ofWalker 6 = .ok (.iload_n 2, 1) := by decide +kernel
theorem dX9_ofWalker_7 : decode cX9_ofWalker 7 = .ok (.ifCond .lt 8, 3) := by decide +kernel
theorem dX9_ofWalker_10 : decode cX9_ofWalker 10 = .ok (.iload_n 2, 1) := by decide +kernel
theorem dX9_ofWalker_11 : decode cX9_ofWalker 11 = .ok (.iconst 5, 1) := by decide +kernel
theorem dX9_ofWalker_12 : decode cX9_ofWalker 12 = .ok (.if_icmp .lt 13, 3) := by decide +kernel
theorem dX9_ofWalker_15 : decode cX9_ofWalker 15 = .ok (.new 48, 3) := by decide +kernel
theorem dX9_ofWalker_18 : decode cX9_ofWalker 18 = .ok (.dup, 1) := by decide +kernel
theorem dX9_ofWalker_19 : decode cX9_ofWalker 19 = .ok (.ldc 242, 2) := by decide +kernel
theorem dX9_ofWalker_21 : decode cX9_ofWalker 21 = .ok (.invokespecial 52, 3) := by decide +kernel
theorem dX9_ofWalker_24 : decode cX9_ofWalker 24 = .ok (.athrow, 1) := by decide +kernel
theorem dX9_ofWalker_25 : decode cX9_ofWalker 25 = .ok (.iload_n 2, 1) := by decide +kernel
theorem dX9_ofWalker_26 : decode cX9_ofWalker 26 = .ok (.tableswitch 72 0 3 #[30, 35, 51, 67], 30) := by decide +kernel
theorem dX9_ofWalker_56 : decode cX9_ofWalker 56 = .ok (.aload_n 3, 1) := by decide +kernel
theorem dX9_ofWalker_57 : decode cX9_ofWalker 57 = .ok (.getfield 144, 3) := by decide +kernel
theorem dX9_ofWalker_60 : decode cX9_ofWalker 60 = .ok (.ireturn, 1) := by decide +kernel
theorem dX9_ofWalker_61 : decode cX9_ofWalker 61 = .ok (.aload_n 0, 1) := by decide +kernel
theorem dX9_ofWalker_62 : decode cX9_ofWalker 62 = .ok (.getfield 44, 3) := by decide +kernel
theorem dX9_ofWalker_65 : decode cX9_ofWalker 65 = .ok (.aload_n 3, 1) := by decide +kernel
theorem dX9_ofWalker_66 : decode cX9_ofWalker 66 = .ok (.getfield 144, 3) := by decide +kernel
theorem dX9_ofWalker_69 : decode cX9_ofWalker 69 = .ok (.aload_n 3, 1) := by decide +kernel
theorem dX9_ofWalker_70 : decode cX9_ofWalker 70 = .ok (.getfield 155, 3) := by decide +kernel
theorem dX9_ofWalker_73 : decode cX9_ofWalker 73 = .ok (.invokevirtual 168, 3) := by decide +kernel
theorem dX9_ofWalker_76 : decode cX9_ofWalker 76 = .ok (.ireturn, 1) := by decide +kernel
theorem dX9_ofWalker_77 : decode cX9_ofWalker 77 = .ok (.aload_n 0, 1) := by decide +kernel
theorem dX9_ofWalker_78 : decode cX9_ofWalker 78 = .ok (.getfield 44, 3) := by decide +kernel
theorem dX9_ofWalker_81 : decode cX9_ofWalker 81 = .ok (.aload_n 3, 1) := by decide +kernel
theorem dX9_ofWalker_82 : decode cX9_ofWalker 82 = .ok (.getfield 244, 3) := by decide +kernel
theorem dX9_ofWalker_85 : decode cX9_ofWalker 85 = .ok (.aload_n 3, 1) := by decide +kernel
theorem dX9_ofWalker_86 : decode cX9_ofWalker 86 = .ok (.getfield 247, 3) := by decide +kernel
theorem dX9_ofWalker_89 : decode cX9_ofWalker 89 = .ok (.invokevirtual 168, 3) := by decide +kernel
theorem dX9_ofWalker_92 : decode cX9_ofWalker 92 = .ok (.ireturn, 1) := by decide +kernel
theorem dX9_ofWalker_93 : decode cX9_ofWalker 93 = .ok (.aload_n 3, 1) := by decide +kernel
theorem dX9_ofWalker_94 : decode cX9_ofWalker 94 = .ok (.getfield 250, 3) := by decide +kernel
theorem dX9_ofWalker_97 : decode cX9_ofWalker 97 = .ok (.ireturn, 1) := by decide +kernel
theorem dX9_ofWalker_98 : decode cX9_ofWalker 98 = .ok (.aload_n 3, 1) := by decide +kernel
theorem dX9_ofWalker_99 : decode cX9_ofWalker 99 = .ok (.getfield 253, 3) := by decide +kernel
theorem dX9_ofWalker_102 : decode cX9_ofWalker 102 = .ok (.ireturn, 1) := by decide +kernel
theorem dX9_ofClaim_0 : decode cX9_ofClaim 0 = .ok (.aload_n 0, 1) := by decide +kernel
theorem dX9_ofClaim_1 : decode cX9_ofClaim 1 = .ok (.iload_n 1, 1) := by decide +kernel
theorem dX9_ofClaim_2 : decode cX9_ofClaim 2 = .ok (.invokevirtual 171, 3) := by decide +kernel
theorem dX9_ofClaim_5 : decode cX9_ofClaim 5 = .ok (.astore_n 3, 1) := by decide +kernel
theorem dX9_ofClaim_6 : decode cX9_ofClaim 6 = .ok (.iload_n 2, 1) := by decide +kernel
theorem dX9_ofClaim_7 : decode cX9_ofClaim 7 = .ok (.ifCond .lt 8, 3) := by decide +kernel
theorem dX9_ofClaim_10 : decode cX9_ofClaim 10 = .ok (.iload_n 2, 1) := by decide +kernel
theorem dX9_ofClaim_11 : decode cX9_ofClaim 11 = .ok (.iconst 5, 1) := by decide +kernel
theorem dX9_ofClaim_12 : decode cX9_ofClaim 12 = .ok (.if_icmp .lt 13, 3) := by decide +kernel
theorem dX9_ofClaim_15 : decode cX9_ofClaim 15 = .ok (.new 48, 3) := by decide +kernel
theorem dX9_ofClaim_18 : decode cX9_ofClaim 18 = .ok (.dup, 1) := by decide +kernel
theorem dX9_ofClaim_19 : decode cX9_ofClaim 19 = .ok (.ldc 242, 2) := by decide +kernel
theorem dX9_ofClaim_21 : decode cX9_ofClaim 21 = .ok (.invokespecial 52, 3) := by decide +kernel
theorem dX9_ofClaim_24 : decode cX9_ofClaim 24 = .ok (.athrow, 1) := by decide +kernel
theorem dX9_ofClaim_25 : decode cX9_ofClaim 25 = .ok (.iload_n 2, 1) := by decide +kernel
theorem dX9_ofClaim_26 : decode cX9_ofClaim 26 = .ok (.tableswitch 50 0 3 #[30, 35, 40, 45], 30) := by decide +kernel
theorem dX9_ofClaim_56 : decode cX9_ofClaim 56 = .ok (.aload_n 3, 1) := by decide +kernel
theorem dX9_ofClaim_57 : decode cX9_ofClaim 57 = .ok (.getfield 175, 3) := by decide +kernel
theorem dX9_ofClaim_60 : decode cX9_ofClaim 60 = .ok (.ireturn, 1) := by decide +kernel
theorem dX9_ofClaim_61 : decode cX9_ofClaim 61 = .ok (.aload_n 3, 1) := by decide +kernel
theorem dX9_ofClaim_62 : decode cX9_ofClaim 62 = .ok (.getfield 256, 3) := by decide +kernel
theorem dX9_ofClaim_65 : decode cX9_ofClaim 65 = .ok (.ireturn, 1) := by decide +kernel
theorem dX9_ofClaim_66 : decode cX9_ofClaim 66 = .ok (.aload_n 3, 1) := by decide +kernel
theorem dX9_ofClaim_67 : decode cX9_ofClaim 67 = .ok (.getfield 259, 3) := by decide +kernel
theorem dX9_ofClaim_70 : decode cX9_ofClaim 70 = .ok (.ireturn, 1) := by decide +kernel
theorem dX9_ofClaim_71 : decode cX9_ofClaim 71 = .ok (.aload_n 3, 1) := by decide +kernel
theorem dX9_ofClaim_72 : decode cX9_ofClaim 72 = .ok (.getfield 262, 3) := by decide +kernel
theorem dX9_ofClaim_75 : decode cX9_ofClaim 75 = .ok (.ireturn, 1) := by decide +kernel
theorem dX9_ofClaim_76 : decode cX9_ofClaim 76 = .ok (.aload_n 3, 1) := by decide +kernel
theorem dX9_ofClaim_77 : decode cX9_ofClaim 77 = .ok (.getfield 265, 3) := by decide +kernel
theorem dX9_ofClaim_80 : decode cX9_ofClaim 80 = .ok (.ireturn, 1) := by decide +kernel
theorem dX9_many_0 : decode cX9_many 0 = .ok (.iload_n 1, 1) := by decide +kernel
theorem dX9_many_1 : decode cX9_many 1 = .ok (.ifCond .lt 9, 3) := by decide +kernel
theorem dX9_many_4 : decode cX9_many 4 = .ok (.iload_n 1, 1) := by decide +kernel
theorem dX9_many_5 : decode cX9_many 5 = .ok (.bipush 7, 2) := by decide +kernel
theorem dX9_many_7 : decode cX9_many 7 = .ok (.if_icmp .lt 14, 3) := by decide +kernel
theorem dX9_many_10 : decode cX9_many 10 = .ok (.new 48, 3) := by decide +kernel
theorem dX9_many_13 : decode cX9_many 13 = .ok (.dup, 1) := by decide +kernel
theorem dX9_many_14 : decode cX9_many 14 = .ok (.ldc_w 268, 3) := by decide +kernel
theorem dX9_many_17 : decode cX9_many 17 = .ok (.invokespecial 52, 3) := by decide +kernel
theorem dX9_many_20 : decode cX9_many 20 = .ok (.athrow, 1) := by decide +kernel
theorem dX9_many_21 : decode cX9_many 21 = .ok (.iload_n 1, 1) := by decide +kernel
theorem dX9_many_22 : decode cX9_many 22 = .ok (.tableswitch 71 0 5 #[38, 46, 51, 56, 61, 66], 38) := by decide +kernel
theorem dX9_many_60 : decode cX9_many 60 = .ok (.aload_n 0, 1) := by decide +kernel
theorem dX9_many_61 : decode cX9_many 61 = .ok (.getfield 44, 3) := by decide +kernel
theorem dX9_many_64 : decode cX9_many 64 = .ok (.getfield 200, 3) := by decide +kernel
theorem dX9_many_67 : decode cX9_many 67 = .ok (.ireturn, 1) := by decide +kernel
theorem dX9_many_68 : decode cX9_many 68 = .ok (.aload_n 0, 1) := by decide +kernel
theorem dX9_many_69 : decode cX9_many 69 = .ok (.getfield 63, 3) := by decide +kernel
theorem dX9_many_72 : decode cX9_many 72 = .ok (.ireturn, 1) := by decide +kernel
theorem dX9_many_73 : decode cX9_many 73 = .ok (.aload_n 0, 1) := by decide +kernel
theorem dX9_many_74 : decode cX9_many 74 = .ok (.getfield 55, 3) := by decide +kernel
theorem dX9_many_77 : decode cX9_many 77 = .ok (.ireturn, 1) := by decide +kernel
theorem dX9_many_78 : decode cX9_many 78 = .ok (.aload_n 0, 1) := by decide +kernel
theorem dX9_many_79 : decode cX9_many 79 = .ok (.getfield 123, 3) := by decide +kernel
theorem dX9_many_82 : decode cX9_many 82 = .ok (.ireturn, 1) := by decide +kernel
theorem dX9_many_83 : decode cX9_many 83 = .ok (.aload_n 0, 1) := by decide +kernel
theorem dX9_many_84 : decode cX9_many 84 = .ok (.invokevirtual 270, 3) := by decide +kernel
theorem dX9_many_87 : decode cX9_many 87 = .ok (.ireturn, 1) := by decide +kernel
theorem dX9_many_88 : decode cX9_many 88 = .ok (.aload_n 0, 1) := by decide +kernel
theorem dX9_many_89 : decode cX9_many 89 = .ok (.getfield 165, 3) := by decide +kernel
theorem dX9_many_92 : decode cX9_many 92 = .ok (.ireturn, 1) := by decide +kernel
theorem dX9_many_93 : decode cX9_many 93 = .ok (.aload_n 0, 1) := by decide +kernel
theorem dX9_many_94 : decode cX9_many 94 = .ok (.getfield 274, 3) := by decide +kernel
theorem dX9_many_97 : decode cX9_many 97 = .ok (.ireturn, 1) := by decide +kernel
theorem dX9_digest_0 : decode cX9_digest 0 = .ok (.aload_n 0, 1) := by decide +kernel
theorem dX9_digest_1 : decode cX9_digest 1 = .ok (.ldc2_w 277, 3) := by decide +kernel
theorem dX9_digest_4 : decode cX9_digest 4 = .ok (.invokevirtual 279, 3) := by decide +kernel
theorem dX9_digest_7 : decode cX9_digest 7 = .ok (.lstore_n 1, 1) := by decide +kernel
theorem dX9_digest_8 : decode cX9_digest 8 = .ok (.iconst 0, 1) := by decide +kernel
theorem dX9_digest_9 : decode cX9_digest 9 = .ok (.istore_n 3, 1) := by decide +kernel
theorem dX9_digest_10 : decode cX9_digest 10 = .ok (.iload_n 3, 1) := by decide +kernel
theorem dX9_digest_11 : decode cX9_digest 11 = .ok (.aload_n 0, 1) := by decide +kernel
theorem dX9_digest_12 : decode cX9_digest 12 = .ok (.getfield 63, 3) := by decide +kernel
theorem dX9_digest_15 : decode cX9_digest 15 = .ok (.if_icmp .ge 16, 3) := by decide +kernel
theorem dX9_digest_18 : decode cX9_digest 18 = .ok (.aload_n 0, 1) := by decide +kernel
theorem dX9_digest_19 : decode cX9_digest 19 = .ok (.lload_n 1, 1) := by decide +kernel
theorem dX9_digest_20 : decode cX9_digest 20 = .ok (.iload_n 3, 1) := by decide +kernel
theorem dX9_digest_21 : decode cX9_digest 21 = .ok (.invokevirtual 283, 3) := by decide +kernel
theorem dX9_digest_24 : decode cX9_digest 24 = .ok (.lstore_n 1, 1) := by decide +kernel
theorem dX9_digest_25 : decode cX9_digest 25 = .ok (.iinc 3 1, 3) := by decide +kernel
theorem dX9_digest_28 : decode cX9_digest 28 = .ok (.goto (-18), 3) := by decide +kernel
theorem dX9_digest_31 : decode cX9_digest 31 = .ok (.iconst 0, 1) := by decide +kernel
theorem dX9_digest_32 : decode cX9_digest 32 = .ok (.istore_n 3, 1) := by decide +kernel
theorem dX9_digest_33 : decode cX9_digest 33 = .ok (.iload_n 3, 1) := by decide +kernel
theorem dX9_digest_34 : decode cX9_digest 34 = .ok (.aload_n 0, 1) := by decide +kernel
theorem dX9_digest_35 : decode cX9_digest 35 = .ok (.getfield 55, 3) := by decide +kernel
theorem dX9_digest_38 : decode cX9_digest 38 = .ok (.if_icmp .ge 39, 3) := by decide +kernel
theorem dX9_digest_41 : decode cX9_digest 41 = .ok (.iconst 0, 1) := by decide +kernel
theorem dX9_digest_42 : decode cX9_digest 42 = .ok (.istore 4, 2) := by decide +kernel
theorem dX9_digest_44 : decode cX9_digest 44 = .ok (.iload 4, 2) := by decide +kernel
theorem dX9_digest_46 : decode cX9_digest 46 = .ok (.iconst 5, 1) := by decide +kernel
theorem dX9_digest_47 : decode cX9_digest 47 = .ok (.if_icmp .ge 24, 3) := by decide +kernel
theorem dX9_digest_50 : decode cX9_digest 50 = .ok (.lload_n 1, 1) := by decide +kernel
theorem dX9_digest_51 : decode cX9_digest 51 = .ok (.ldc2_w 287, 3) := by decide +kernel
theorem dX9_digest_54 : decode cX9_digest 54 = .ok (.lmul, 1) := by decide +kernel
theorem dX9_digest_55 : decode cX9_digest 55 = .ok (.aload_n 0, 1) := by decide +kernel
theorem dX9_digest_56 : decode cX9_digest 56 = .ok (.iload_n 3, 1) := by decide +kernel
theorem dX9_digest_57 : decode cX9_digest 57 = .ok (.iload 4, 2) := by decide +kernel
theorem dX9_digest_59 : decode cX9_digest 59 = .ok (.invokevirtual 289, 3) := by decide +kernel
theorem dX9_digest_62 : decode cX9_digest 62 = .ok (.i2l, 1) := by decide +kernel
theorem dX9_digest_63 : decode cX9_digest 63 = .ok (.ladd, 1) := by decide +kernel
theorem dX9_digest_64 : decode cX9_digest 64 = .ok (.lstore_n 1, 1) := by decide +kernel
theorem dX9_digest_65 : decode cX9_digest 65 = .ok (.iinc 4 1, 3) := by decide +kernel
theorem dX9_digest_68 : decode cX9_digest 68 = .ok (.goto (-24), 3) := by decide +kernel
theorem dX9_digest_71 : decode cX9_digest 71 = .ok (.iinc 3 1, 3) := by decide +kernel
theorem dX9_digest_74 : decode cX9_digest 74 = .ok (.goto (-41), 3) := by decide +kernel
theorem dX9_digest_77 : decode cX9_digest 77 = .ok (.iconst 0, 1) := by decide +kernel
theorem dX9_digest_78 : decode cX9_digest 78 = .ok (.istore_n 3, 1) := by decide +kernel
theorem dX9_digest_79 : decode cX9_digest 79 = .ok (.iload_n 3, 1) := by decide +kernel
theorem dX9_digest_80 : decode cX9_digest 80 = .ok (.aload_n 0, 1) := by decide +kernel
theorem dX9_digest_81 : decode cX9_digest 81 = .ok (.getfield 123, 3) := by decide +kernel
theorem dX9_digest_84 : decode cX9_digest 84 = .ok (.if_icmp .ge 39, 3) := by decide +kernel
theorem dX9_digest_87 : decode cX9_digest 87 = .ok (.iconst 0, 1) := by decide +kernel
theorem dX9_digest_88 : decode cX9_digest 88 = .ok (.istore 4, 2) := by decide +kernel
theorem dX9_digest_90 : decode cX9_digest 90 = .ok (.iload 4, 2) := by decide +kernel
theorem dX9_digest_92 : decode cX9_digest 92 = .ok (.iconst 5, 1) := by decide +kernel
theorem dX9_digest_93 : decode cX9_digest 93 = .ok (.if_icmp .ge 24, 3) := by decide +kernel
theorem dX9_digest_96 : decode cX9_digest 96 = .ok (.lload_n 1, 1) := by decide +kernel
theorem dX9_digest_97 : decode cX9_digest 97 = .ok (.ldc2_w 287, 3) := by decide +kernel
theorem dX9_digest_100 : decode cX9_digest 100 = .ok (.lmul, 1) := by decide +kernel
theorem dX9_digest_101 : decode cX9_digest 101 = .ok (.aload_n 0, 1) := by decide +kernel
theorem dX9_digest_102 : decode cX9_digest 102 = .ok (.iload_n 3, 1) := by decide +kernel
theorem dX9_digest_103 : decode cX9_digest 103 = .ok (.iload 4, 2) := by decide +kernel
theorem dX9_digest_105 : decode cX9_digest 105 = .ok (.invokevirtual 292, 3) := by decide +kernel
theorem dX9_digest_108 : decode cX9_digest 108 = .ok (.i2l, 1) := by decide +kernel
theorem dX9_digest_109 : decode cX9_digest 109 = .ok (.ladd, 1) := by decide +kernel
theorem dX9_digest_110 : decode cX9_digest 110 = .ok (.lstore_n 1, 1) := by decide +kernel
theorem dX9_digest_111 : decode cX9_digest 111 = .ok (.iinc 4 1, 3) := by decide +kernel
theorem dX9_digest_114 : decode cX9_digest 114 = .ok (.goto (-24), 3) := by decide +kernel
theorem dX9_digest_117 : decode cX9_digest 117 = .ok (.iinc 3 1, 3) := by decide +kernel
theorem dX9_digest_120 : decode cX9_digest 120 = .ok (.goto (-41), 3) := by decide +kernel
theorem dX9_digest_123 : decode cX9_digest 123 = .ok (.lload_n 1, 1) := by decide +kernel
theorem dX9_digest_124 : decode cX9_digest 124 = .ok (.ldc2_w 287, 3) := by decide +kernel
theorem dX9_digest_127 : decode cX9_digest 127 = .ok (.lmul, 1) := by decide +kernel
theorem dX9_digest_128 : decode cX9_digest 128 = .ok (.aload_n 0, 1) := by decide +kernel
theorem dX9_digest_129 : decode cX9_digest 129 = .ok (.iconst 1, 1) := by decide +kernel
theorem dX9_digest_130 : decode cX9_digest 130 = .ok (.invokevirtual 295, 3) := by decide +kernel
theorem dX9_digest_133 : decode cX9_digest 133 = .ok (.i2l, 1) := by decide +kernel
theorem dX9_digest_134 : decode cX9_digest 134 = .ok (.ladd, 1) := by decide +kernel
theorem dX9_digest_135 : decode cX9_digest 135 = .ok (.lreturn, 1) := by decide +kernel
theorem dX9_digestOfObjects_0 : decode cX9_digestOfObjects 0 = .ok (.lload_n 1, 1) := by decide +kernel
theorem dX9_digestOfObjects_1 : decode cX9_digestOfObjects 1 = .ok (.lstore_n 3, 1) := by decide +kernel
theorem dX9_digestOfObjects_2 : decode cX9_digestOfObjects 2 = .ok (.iconst 0, 1) := by decide +kernel
theorem dX9_digestOfObjects_3 : decode cX9_digestOfObjects 3 = .ok (.istore 5, 2) := by decide +kernel
theorem dX9_digestOfObjects_5 : decode cX9_digestOfObjects 5 = .ok (.iload 5, 2) := by decide +kernel
theorem dX9_digestOfObjects_7 : decode cX9_digestOfObjects 7 = .ok (.bipush 7, 2) := by decide +kernel
theorem dX9_digestOfObjects_9 : decode cX9_digestOfObjects 9 = .ok (.if_icmp .ge 23, 3) := by decide +kernel
theorem dX9_digestOfObjects_12 : decode cX9_digestOfObjects 12 = .ok (.lload_n 3, 1) := by decide +kernel
theorem dX9_digestOfObjects_13 : decode cX9_digestOfObjects 13 = .ok (.ldc2_w 287, 3) := by decide +kernel
theorem dX9_digestOfObjects_16 : decode cX9_digestOfObjects 16 = .ok (.lmul, 1) := by decide +kernel
theorem dX9_digestOfObjects_17 : decode cX9_digestOfObjects 17 = .ok (.aload_n 0, 1) := by decide +kernel
theorem dX9_digestOfObjects_18 : decode cX9_digestOfObjects 18 = .ok (.iload 5, 2) := by decide +kernel
theorem dX9_digestOfObjects_20 : decode cX9_digestOfObjects 20 = .ok (.invokevirtual 298, 3) := by decide +kernel
theorem dX9_digestOfObjects_23 : decode cX9_digestOfObjects 23 = .ok (.i2l, 1) := by decide +kernel
theorem dX9_digestOfObjects_24 : decode cX9_digestOfObjects 24 = .ok (.ladd, 1) := by decide +kernel
theorem dX9_digestOfObjects_25 : decode cX9_digestOfObjects 25 = .ok (.lstore_n 3, 1) := by decide +kernel
theorem dX9_digestOfObjects_26 : decode cX9_digestOfObjects 26 = .ok (.iinc 5 1, 3) := by decide +kernel
theorem dX9_digestOfObjects_29 : decode cX9_digestOfObjects 29 = .ok (.goto (-24), 3) := by decide +kernel
theorem dX9_digestOfObjects_32 : decode cX9_digestOfObjects 32 = .ok (.iconst 0, 1) := by decide +kernel
theorem dX9_digestOfObjects_33 : decode cX9_digestOfObjects 33 = .ok (.istore 5, 2) := by decide +kernel
theorem dX9_digestOfObjects_35 : decode cX9_digestOfObjects 35 = .ok (.iload 5, 2) := by decide +kernel
theorem dX9_digestOfObjects_37 : decode cX9_digestOfObjects 37 = .ok (.iconst 3, 1) := by decide +kernel
theorem dX9_digestOfObjects_38 : decode cX9_digestOfObjects 38 = .ok (.if_icmp .ge 54, 3) := by decide +kernel
theorem dX9_digestOfObjects_41 : decode cX9_digestOfObjects 41 = .ok (.lload_n 3, 1) := by decide +kernel
theorem dX9_digestOfObjects_42 : decode cX9_digestOfObjects 42 = .ok (.ldc2_w 287, 3) := by decide +kernel
theorem dX9_digestOfObjects_45 : decode cX9_digestOfObjects 45 = .ok (.lmul, 1) := by decide +kernel
theorem dX9_digestOfObjects_46 : decode cX9_digestOfObjects 46 = .ok (.aload_n 0, 1) := by decide +kernel
theorem dX9_digestOfObjects_47 : decode cX9_digestOfObjects 47 = .ok (.iload 5, 2) := by decide +kernel
theorem dX9_digestOfObjects_49 : decode cX9_digestOfObjects 49 = .ok (.invokevirtual 301, 3) := by decide +kernel
theorem dX9_digestOfObjects_52 : decode cX9_digestOfObjects 52 = .ok (.i2l, 1) := by decide +kernel
theorem dX9_digestOfObjects_53 : decode cX9_digestOfObjects 53 = .ok (.ladd, 1) := by decide +kernel
theorem dX9_digestOfObjects_54 : decode cX9_digestOfObjects 54 = .ok (.lstore_n 3, 1) := by decide +kernel
theorem dX9_digestOfObjects_55 : decode cX9_digestOfObjects 55 = .ok (.iconst 0, 1) := by decide +kernel
theorem dX9_digestOfObjects_56 : decode cX9_digestOfObjects 56 = .ok (.istore 6, 2) := by decide +kernel
theorem dX9_digestOfObjects_58 : decode cX9_digestOfObjects 58 = .ok (.iload 6, 2) := by decide +kernel
theorem dX9_digestOfObjects_60 : decode cX9_digestOfObjects 60 = .ok (.iconst 4, 1) := by decide +kernel
theorem dX9_digestOfObjects_61 : decode cX9_digestOfObjects 61 = .ok (.if_icmp .ge 25, 3) := by decide +kernel
theorem dX9_digestOfObjects_64 : decode cX9_digestOfObjects 64 = .ok (.lload_n 3, 1) := by decide +kernel
theorem dX9_digestOfObjects_65 : decode cX9_digestOfObjects 65 = .ok (.ldc2_w 287, 3) := by decide +kernel
theorem dX9_digestOfObjects_68 : decode cX9_digestOfObjects 68 = .ok (.lmul, 1) := by decide +kernel
theorem dX9_digestOfObjects_69 : decode cX9_digestOfObjects 69 = .ok (.aload_n 0, 1) := by decide +kernel
theorem dX9_digestOfObjects_70 : decode cX9_digestOfObjects 70 = .ok (.iload 5, 2) := by decide +kernel
theorem dX9_digestOfObjects_72 : decode cX9_digestOfObjects 72 = .ok (.iload 6, 2) := by decide +kernel
theorem dX9_digestOfObjects_74 : decode cX9_digestOfObjects 74 = .ok (.invokevirtual 304, 3) := by decide +kernel
theorem dX9_digestOfObjects_77 : decode cX9_digestOfObjects 77 = .ok (.i2l, 1) := by decide +kernel
theorem dX9_digestOfObjects_78 : decode cX9_digestOfObjects 78 = .ok (.ladd, 1) := by decide +kernel
theorem dX9_digestOfObjects_79 : decode cX9_digestOfObjects 79 = .ok (.lstore_n 3, 1) := by decide +kernel
theorem dX9_digestOfObjects_80 : decode cX9_digestOfObjects 80 = .ok (.iinc 6 1, 3) := by decide +kernel
theorem dX9_digestOfObjects_83 : decode cX9_digestOfObjects 83 = .ok (.goto (-25), 3) := by decide +kernel
theorem dX9_digestOfObjects_86 : decode cX9_digestOfObjects 86 = .ok (.iinc 5 1, 3) := by decide +kernel
theorem dX9_digestOfObjects_89 : decode cX9_digestOfObjects 89 = .ok (.goto (-54), 3) := by decide +kernel
theorem dX9_digestOfObjects_92 : decode cX9_digestOfObjects 92 = .ok (.lload_n 3, 1) := by decide +kernel
theorem dX9_digestOfObjects_93 : decode cX9_digestOfObjects 93 = .ok (.lreturn, 1) := by decide +kernel
theorem dX9_digestOfMap_0 : decode cX9_digestOfMap 0 = .ok (.lload_n 1, 1) := by decide +kernel
theorem dX9_digestOfMap_1 : decode cX9_digestOfMap 1 = .ok (.lstore 4, 2) := by decide +kernel
theorem dX9_digestOfMap_3 : decode cX9_digestOfMap 3 = .ok (.iconst 0, 1) := by decide +kernel
theorem dX9_digestOfMap_4 : decode cX9_digestOfMap 4 = .ok (.istore 6, 2) := by decide +kernel
theorem dX9_digestOfMap_6 : decode cX9_digestOfMap 6 = .ok (.iload 6, 2) := by decide +kernel
theorem dX9_digestOfMap_8 : decode cX9_digestOfMap 8 = .ok (.bipush 8, 2) := by decide +kernel
theorem dX9_digestOfMap_10 : decode cX9_digestOfMap 10 = .ok (.if_icmp .ge 26, 3) := by decide +kernel
theorem dX9_digestOfMap_13 : decode cX9_digestOfMap 13 = .ok (.lload 4, 2) := by decide +kernel
theorem dX9_digestOfMap_15 : decode cX9_digestOfMap 15 = .ok (.ldc2_w 287, 3) := by decide +kernel
theorem dX9_digestOfMap_18 : decode cX9_digestOfMap 18 = .ok (.lmul, 1) := by decide +kernel
theorem dX9_digestOfMap_19 : decode cX9_digestOfMap 19 = .ok (.aload_n 0, 1) := by decide +kernel
theorem dX9_digestOfMap_20 : decode cX9_digestOfMap 20 = .ok (.iload_n 3, 1) := by decide +kernel
theorem dX9_digestOfMap_21 : decode cX9_digestOfMap 21 = .ok (.iload 6, 2) := by decide +kernel
theorem dX9_digestOfMap_23 : decode cX9_digestOfMap 23 = .ok (.invokevirtual 307, 3) := by decide +kernel
theorem dX9_digestOfMap_26 : decode cX9_digestOfMap 26 = .ok (.i2l, 1) := by decide +kernel
theorem dX9_digestOfMap_27 : decode cX9_digestOfMap 27 = .ok (.ladd, 1) := by decide +kernel
theorem dX9_digestOfMap_28 : decode cX9_digestOfMap 28 = .ok (.lstore 4, 2) := by decide +kernel
theorem dX9_digestOfMap_30 : decode cX9_digestOfMap 30 = .ok (.iinc 6 1, 3) := by decide +kernel
theorem dX9_digestOfMap_33 : decode cX9_digestOfMap 33 = .ok (.goto (-27), 3) := by decide +kernel
theorem dX9_digestOfMap_36 : decode cX9_digestOfMap 36 = .ok (.lload 4, 2) := by decide +kernel
theorem dX9_digestOfMap_38 : decode cX9_digestOfMap 38 = .ok (.ldc2_w 287, 3) := by decide +kernel
theorem dX9_digestOfMap_41 : decode cX9_digestOfMap 41 = .ok (.lmul, 1) := by decide +kernel
theorem dX9_digestOfMap_42 : decode cX9_digestOfMap 42 = .ok (.aload_n 0, 1) := by decide +kernel
theorem dX9_digestOfMap_43 : decode cX9_digestOfMap 43 = .ok (.iload_n 3, 1) := by decide +kernel
theorem dX9_digestOfMap_44 : decode cX9_digestOfMap 44 = .ok (.iconst 0, 1) := by decide +kernel
theorem dX9_digestOfMap_45 : decode cX9_digestOfMap 45 = .ok (.invokevirtual 310, 3) := by decide +kernel
theorem dX9_digestOfMap_48 : decode cX9_digestOfMap 48 = .ok (.i2l, 1) := by decide +kernel
theorem dX9_digestOfMap_49 : decode cX9_digestOfMap 49 = .ok (.ladd, 1) := by decide +kernel
theorem dX9_digestOfMap_50 : decode cX9_digestOfMap 50 = .ok (.lstore 4, 2) := by decide +kernel
theorem dX9_digestOfMap_52 : decode cX9_digestOfMap 52 = .ok (.lload 4, 2) := by decide +kernel
theorem dX9_digestOfMap_54 : decode cX9_digestOfMap 54 = .ok (.ldc2_w 287, 3) := by decide +kernel
theorem dX9_digestOfMap_57 : decode cX9_digestOfMap 57 = .ok (.lmul, 1) := by decide +kernel
theorem dX9_digestOfMap_58 : decode cX9_digestOfMap 58 = .ok (.aload_n 0, 1) := by decide +kernel
theorem dX9_digestOfMap_59 : decode cX9_digestOfMap 59 = .ok (.iload_n 3, 1) := by decide +kernel
theorem dX9_digestOfMap_60 : decode cX9_digestOfMap 60 = .ok (.invokevirtual 313, 3) := by decide +kernel
theorem dX9_digestOfMap_63 : decode cX9_digestOfMap 63 = .ok (.i2l, 1) := by decide +kernel
theorem dX9_digestOfMap_64 : decode cX9_digestOfMap 64 = .ok (.ladd, 1) := by decide +kernel
theorem dX9_digestOfMap_65 : decode cX9_digestOfMap 65 = .ok (.lstore 4, 2) := by decide +kernel
theorem dX9_digestOfMap_67 : decode cX9_digestOfMap 67 = .ok (.lload 4, 2) := by decide +kernel
theorem dX9_digestOfMap_69 : decode cX9_digestOfMap 69 = .ok (.ldc2_w 287, 3) := by decide +kernel
theorem dX9_digestOfMap_72 : decode cX9_digestOfMap 72 = .ok (.lmul, 1) := by decide +kernel
theorem dX9_digestOfMap_73 : decode cX9_digestOfMap 73 = .ok (.aload_n 0, 1) := by decide +kernel
theorem dX9_digestOfMap_74 : decode cX9_digestOfMap 74 = .ok (.iload_n 3, 1) := by decide +kernel
theorem dX9_digestOfMap_75 : decode cX9_digestOfMap 75 = .ok (.invokevirtual 315, 3) := by decide +kernel
theorem dX9_digestOfMap_78 : decode cX9_digestOfMap 78 = .ok (.ladd, 1) := by decide +kernel
theorem dX9_digestOfMap_79 : decode cX9_digestOfMap 79 = .ok (.lstore 4, 2) := by decide +kernel
theorem dX9_digestOfMap_81 : decode cX9_digestOfMap 81 = .ok (.lload 4, 2) := by decide +kernel
theorem dX9_digestOfMap_83 : decode cX9_digestOfMap 83 = .ok (.ldc2_w 287, 3) := by decide +kernel
theorem dX9_digestOfMap_86 : decode cX9_digestOfMap 86 = .ok (.lmul, 1) := by decide +kernel
theorem dX9_digestOfMap_87 : decode cX9_digestOfMap 87 = .ok (.aload_n 0, 1) := by decide +kernel
theorem dX9_digestOfMap_88 : decode cX9_digestOfMap 88 = .ok (.iload_n 3, 1) := by decide +kernel
theorem dX9_digestOfMap_89 : decode cX9_digestOfMap 89 = .ok (.iconst 0, 1) := by decide +kernel
theorem dX9_digestOfMap_90 : decode cX9_digestOfMap 90 = .ok (.iconst 0, 1) := by decide +kernel
theorem dX9_digestOfMap_91 : decode cX9_digestOfMap 91 = .ok (.invokevirtual 318, 3) := by decide +kernel
theorem dX9_digestOfMap_94 : decode cX9_digestOfMap 94 = .ok (.i2l, 1) := by decide +kernel
theorem dX9_digestOfMap_95 : decode cX9_digestOfMap 95 = .ok (.ladd, 1) := by decide +kernel
theorem dX9_digestOfMap_96 : decode cX9_digestOfMap 96 = .ok (.lreturn, 1) := by decide +kernel
theorem dX9_needStep_0 : decode cX9_needStep 0 = .ok (.iload_n 0, 1) := by decide +kernel
theorem dX9_needStep_1 : decode cX9_needStep 1 = .ok (.ifCond .lt 9, 3) := by decide +kernel
theorem dX9_needStep_4 : decode cX9_needStep 4 = .ok (.iload_n 0, 1) := by decide +kernel
theorem dX9_needStep_5 : decode cX9_needStep 5 = .ok (.bipush 11, 2) := by decide +kernel
theorem dX9_needStep_7 : decode cX9_needStep 7 = .ok (.if_icmp .lt 14, 3) := by decide +kernel
theorem dX9_needStep_10 : decode cX9_needStep 10 = .ok (.new 48, 3) := by decide +kernel
theorem dX9_needStep_13 : decode cX9_needStep 13 = .ok (.dup, 1) := by decide +kernel
theorem dX9_needStep_14 : decode cX9_needStep 14 = .ok (.ldc_w 321, 3) := by decide +kernel
theorem dX9_needStep_17 : decode cX9_needStep 17 = .ok (.invokespecial 52, 3) := by decide +kernel
theorem dX9_needStep_20 : decode cX9_needStep 20 = .ok (.athrow, 1) := by decide +kernel
theorem dX9_needStep_21 : decode cX9_needStep 21 = .ok (.return_, 1) := by decide +kernel
theorem dX9_needFamily_0 : decode cX9_needFamily 0 = .ok (.iload_n 0, 1) := by decide +kernel
theorem dX9_needFamily_1 : decode cX9_needFamily 1 = .ok (.ifCond .lt 8, 3) := by decide +kernel
theorem dX9_needFamily_4 : decode cX9_needFamily 4 = .ok (.iload_n 0, 1) := by decide +kernel
theorem dX9_needFamily_5 : decode cX9_needFamily 5 = .ok (.iconst 3, 1) := by decide +kernel
theorem dX9_needFamily_6 : decode cX9_needFamily 6 = .ok (.if_icmp .lt 14, 3) := by decide +kernel
theorem dX9_needFamily_9 : decode cX9_needFamily 9 = .ok (.new 323, 3) := by decide +kernel
theorem dX9_needFamily_12 : decode cX9_needFamily 12 = .ok (.dup, 1) := by decide +kernel
theorem dX9_needFamily_13 : decode cX9_needFamily 13 = .ok (.ldc_w 325, 3) := by decide +kernel
theorem dX9_needFamily_16 : decode cX9_needFamily 16 = .ok (.invokespecial 327, 3) := by decide +kernel
theorem dX9_needFamily_19 : decode cX9_needFamily 19 = .ok (.athrow, 1) := by decide +kernel
theorem dX9_needFamily_20 : decode cX9_needFamily 20 = .ok (.return_, 1) := by decide +kernel
theorem dX9_needStatistic_0 : decode cX9_needStatistic 0 = .ok (.iload_n 0, 1) := by decide +kernel
theorem dX9_needStatistic_1 : decode cX9_needStatistic 1 = .ok (.ifCond .lt 8, 3) := by decide +kernel
theorem dX9_needStatistic_4 : decode cX9_needStatistic 4 = .ok (.iload_n 0, 1) := by decide +kernel
theorem dX9_needStatistic_5 : decode cX9_needStatistic 5 = .ok (.iconst 4, 1) := by decide +kernel
theorem dX9_needStatistic_6 : decode cX9_needStatistic 6 = .ok (.if_icmp .lt 14, 3) := by decide +kernel
theorem dX9_needStatistic_9 : decode cX9_needStatistic 9 = .ok (.new 48, 3) := by decide +kernel
theorem dX9_needStatistic_12 : decode cX9_needStatistic 12 = .ok (.dup, 1) := by decide +kernel
theorem dX9_needStatistic_13 : decode cX9_needStatistic 13 = .ok (.ldc_w 328, 3) := by decide +kernel
theorem dX9_needStatistic_16 : decode cX9_needStatistic 16 = .ok (.invokespecial 52, 3) := by decide +kernel
theorem dX9_needStatistic_19 : decode cX9_needStatistic 19 = .ok (.athrow, 1) := by decide +kernel
theorem dX9_needStatistic_20 : decode cX9_needStatistic 20 = .ok (.return_, 1) := by decide +kernel
theorem dX9_needRank_0 : decode cX9_needRank 0 = .ok (.iload_n 1, 1) := by decide +kernel
theorem dX9_needRank_1 : decode cX9_needRank 1 = .ok (.invokestatic 106, 3) := by decide +kernel
theorem dX9_needRank_4 : decode cX9_needRank 4 = .ok (.iload_n 2, 1) := by decide +kernel
theorem dX9_needRank_5 : decode cX9_needRank 5 = .ok (.ifCond .lt 15, 3) := by decide +kernel
theorem dX9_needRank_8 : decode cX9_needRank 8 = .ok (.iload_n 2, 1) := by decide +kernel
theorem dX9_needRank_9 : decode cX9_needRank 9 = .ok (.aload_n 0, 1) := by decide +kernel
theorem dX9_needRank_10 : decode cX9_needRank 10 = .ok (.getfield 44, 3) := by decide +kernel
theorem dX9_needRank_13 : decode cX9_needRank 13 = .ok (.iload_n 1, 1) := by decide +kernel
theorem dX9_needRank_14 : decode cX9_needRank 14 = .ok (.invokevirtual 178, 3) := by decide +kernel
theorem dX9_needRank_17 : decode cX9_needRank 17 = .ok (.if_icmp .lt 14, 3) := by decide +kernel
theorem dX9_needRank_20 : decode cX9_needRank 20 = .ok (.new 323, 3) := by decide +kernel
theorem dX9_needRank_23 : decode cX9_needRank 23 = .ok (.dup, 1) := by decide +kernel
theorem dX9_needRank_24 : decode cX9_needRank 24 = .ok (.ldc_w 330, 3) := by decide +kernel
theorem dX9_needRank_27 : decode cX9_needRank 27 = .ok (.invokespecial 327, 3) := by decide +kernel
theorem dX9_needRank_30 : decode cX9_needRank 30 = .ok (.athrow, 1) := by decide +kernel
theorem dX9_needRank_31 : decode cX9_needRank 31 = .ok (.return_, 1) := by decide +kernel
theorem dX9_chartAt_0 : decode cX9_chartAt 0 = .ok (.iload_n 1, 1) := by decide +kernel
theorem dX9_chartAt_1 : decode cX9_chartAt 1 = .ok (.ifCond .lt 29, 3) := by decide +kernel
theorem dX9_chartAt_4 : decode cX9_chartAt 4 = .ok (.iload_n 1, 1) := by decide +kernel
theorem dX9_chartAt_5 : decode cX9_chartAt 5 = .ok (.aload_n 0, 1) := by decide +kernel
theorem dX9_chartAt_6 : decode cX9_chartAt 6 = .ok (.getfield 63, 3) := by decide +kernel
theorem dX9_chartAt_9 : decode cX9_chartAt 9 = .ok (.if_icmp .ge 21, 3) := by decide +kernel
theorem dX9_chartAt_12 : decode cX9_chartAt 12 = .ok (.iload_n 1, 1) := by decide +kernel
theorem dX9_chartAt_13 : decode cX9_chartAt 13 = .ok (.aload_n 0, 1) := by decide +kernel
theorem dX9_chartAt_14 : decode cX9_chartAt 14 = .ok (.getfield 24, 3) := by decide +kernel
theorem dX9_chartAt_17 : decode cX9_chartAt 17 = .ok (.arraylength, 1) := by decide +kernel
theorem dX9_chartAt_18 : decode cX9_chartAt 18 = .ok (.if_icmp .ge 12, 3) := by decide +kernel
theorem dX9_chartAt_21 : decode cX9_chartAt 21 = .ok (.aload_n 0, 1) := by decide +kernel
theorem dX9_chartAt_22 : decode cX9_chartAt 22 = .ok (.getfield 24, 3) := by decide +kernel
theorem dX9_chartAt_25 : decode cX9_chartAt 25 = .ok (.iload_n 1, 1) := by decide +kernel
theorem dX9_chartAt_26 : decode cX9_chartAt 26 = .ok (.aaload, 1) := by decide +kernel
theorem dX9_chartAt_27 : decode cX9_chartAt 27 = .ok (.goto 4, 3) := by decide +kernel
theorem dX9_chartAt_30 : decode cX9_chartAt 30 = .ok (.aconst_null, 1) := by decide +kernel
theorem dX9_chartAt_31 : decode cX9_chartAt 31 = .ok (.astore_n 2, 1) := by decide +kernel
theorem dX9_chartAt_32 : decode cX9_chartAt 32 = .ok (.aload_n 2, 1) := by decide +kernel
theorem dX9_chartAt_33 : decode cX9_chartAt 33 = .ok (.ifnonnull 14, 3) := by decide +kernel
theorem dX9_chartAt_36 : decode cX9_chartAt 36 = .ok (.new 323, 3) := by decide +kernel
theorem dX9_chartAt_39 : decode cX9_chartAt 39 = .ok (.dup, 1) := by decide +kernel
theorem dX9_chartAt_40 : decode cX9_chartAt 40 = .ok (.ldc_w 332, 3) := by decide +kernel
theorem dX9_chartAt_43 : decode cX9_chartAt 43 = .ok (.invokespecial 327, 3) := by decide +kernel
theorem dX9_chartAt_46 : decode cX9_chartAt 46 = .ok (.athrow, 1) := by decide +kernel
theorem dX9_chartAt_47 : decode cX9_chartAt 47 = .ok (.aload_n 2, 1) := by decide +kernel
theorem dX9_chartAt_48 : decode cX9_chartAt 48 = .ok (.areturn, 1) := by decide +kernel
theorem dX9_walkerAt_0 : decode cX9_walkerAt 0 = .ok (.iload_n 1, 1) := by decide +kernel
theorem dX9_walkerAt_1 : decode cX9_walkerAt 1 = .ok (.ifCond .lt 29, 3) := by decide +kernel
theorem dX9_walkerAt_4 : decode cX9_walkerAt 4 = .ok (.iload_n 1, 1) := by decide +kernel
theorem dX9_walkerAt_5 : decode cX9_walkerAt 5 = .ok (.aload_n 0, 1) := by decide +kernel
theorem dX9_walkerAt_6 : decode cX9_walkerAt 6 = .ok (.getfield 55, 3) := by decide +kernel
theorem dX9_walkerAt_9 : decode cX9_walkerAt 9 = .ok (.if_icmp .ge 21, 3) := by decide +kernel
theorem dX9_walkerAt_12 : decode cX9_walkerAt 12 = .ok (.iload_n 1, 1) := by decide +kernel
theorem dX9_walkerAt_13 : decode cX9_walkerAt 13 = .ok (.aload_n 0, 1) := by decide +kernel
theorem dX9_walkerAt_14 : decode cX9_walkerAt 14 = .ok (.getfield 30, 3) := by decide +kernel
theorem dX9_walkerAt_17 : decode cX9_walkerAt 17 = .ok (.arraylength, 1) := by decide +kernel
theorem dX9_walkerAt_18 : decode cX9_walkerAt 18 = .ok (.if_icmp .ge 12, 3) := by decide +kernel
theorem dX9_walkerAt_21 : decode cX9_walkerAt 21 = .ok (.aload_n 0, 1) := by decide +kernel
theorem dX9_walkerAt_22 : decode cX9_walkerAt 22 = .ok (.getfield 30, 3) := by decide +kernel
theorem dX9_walkerAt_25 : decode cX9_walkerAt 25 = .ok (.iload_n 1, 1) := by decide +kernel
theorem dX9_walkerAt_26 : decode cX9_walkerAt 26 = .ok (.aaload, 1) := by decide +kernel
theorem dX9_walkerAt_27 : decode cX9_walkerAt 27 = .ok (.goto 4, 3) := by decide +kernel
theorem dX9_walkerAt_30 : decode cX9_walkerAt 30 = .ok (.aconst_null, 1) := by decide +kernel
theorem dX9_walkerAt_31 : decode cX9_walkerAt 31 = .ok (.astore_n 2, 1) := by decide +kernel
theorem dX9_walkerAt_32 : decode cX9_walkerAt 32 = .ok (.aload_n 2, 1) := by decide +kernel
theorem dX9_walkerAt_33 : decode cX9_walkerAt 33 = .ok (.ifnonnull 14, 3) := by decide +kernel
theorem dX9_walkerAt_36 : decode cX9_walkerAt 36 = .ok (.new 323, 3) := by decide +kernel
theorem dX9_walkerAt_39 : decode cX9_walkerAt 39 = .ok (.dup, 1) := by decide +kernel
theorem dX9_walkerAt_40 : decode cX9_walkerAt 40 = .ok (.ldc_w 334, 3) := by decide +kernel
theorem dX9_walkerAt_43 : decode cX9_walkerAt 43 = .ok (.invokespecial 327, 3) := by decide +kernel
theorem dX9_walkerAt_46 : decode cX9_walkerAt 46 = .ok (.athrow, 1) := by decide +kernel
theorem dX9_walkerAt_47 : decode cX9_walkerAt 47 = .ok (.aload_n 2, 1) := by decide +kernel
theorem dX9_walkerAt_48 : decode cX9_walkerAt 48 = .ok (.areturn, 1) := by decide +kernel
theorem dX9_claimAt_0 : decode cX9_claimAt 0 = .ok (.iload_n 1, 1) := by decide +kernel
theorem dX9_claimAt_1 : decode cX9_claimAt 1 = .ok (.ifCond .lt 29, 3) := by decide +kernel
theorem dX9_claimAt_4 : decode cX9_claimAt 4 = .ok (.iload_n 1, 1) := by decide +kernel
theorem dX9_claimAt_5 : decode cX9_claimAt 5 = .ok (.aload_n 0, 1) := by decide +kernel
theorem dX9_claimAt_6 : decode cX9_claimAt 6 = .ok (.getfield 123, 3) := by decide +kernel
theorem dX9_claimAt_9 : decode cX9_claimAt 9 = .ok (.if_icmp .ge 21, 3) := by decide +kernel
theorem dX9_claimAt_12 : decode cX9_claimAt 12 = .ok (.iload_n 1, 1) := by decide +kernel
theorem dX9_claimAt_13 : decode cX9_claimAt 13 = .ok (.aload_n 0, 1) := by decide +kernel
theorem dX9_claimAt_14 : decode cX9_claimAt 14 = .ok (.getfield 36, 3) := by decide +kernel
theorem dX9_claimAt_17 : decode cX9_claimAt 17 = .ok (.arraylength, 1) := by decide +kernel
theorem dX9_claimAt_18 : decode cX9_claimAt 18 = .ok (.if_icmp .ge 12, 3) := by decide +kernel
theorem dX9_claimAt_21 : decode cX9_claimAt 21 = .ok (.aload_n 0, 1) := by decide +kernel
theorem dX9_claimAt_22 : decode cX9_claimAt 22 = .ok (.getfield 36, 3) := by decide +kernel
theorem dX9_claimAt_25 : decode cX9_claimAt 25 = .ok (.iload_n 1, 1) := by decide +kernel
theorem dX9_claimAt_26 : decode cX9_claimAt 26 = .ok (.aaload, 1) := by decide +kernel
theorem dX9_claimAt_27 : decode cX9_claimAt 27 = .ok (.goto 4, 3) := by decide +kernel
theorem dX9_claimAt_30 : decode cX9_claimAt 30 = .ok (.aconst_null, 1) := by decide +kernel
theorem dX9_claimAt_31 : decode cX9_claimAt 31 = .ok (.astore_n 2, 1) := by decide +kernel
theorem dX9_claimAt_32 : decode cX9_claimAt 32 = .ok (.aload_n 2, 1) := by decide +kernel
theorem dX9_claimAt_33 : decode cX9_claimAt 33 = .ok (.ifnonnull 14, 3) := by decide +kernel
theorem dX9_claimAt_36 : decode cX9_claimAt 36 = .ok (.new 323, 3) := by decide +kernel
theorem dX9_claimAt_39 : decode cX9_claimAt 39 = .ok (.dup, 1) := by decide +kernel
theorem dX9_claimAt_40 : decode cX9_claimAt 40 = .ok (.ldc_w 336, 3) := by decide +kernel
theorem dX9_claimAt_43 : decode cX9_claimAt 43 = .ok (.invokespecial 327, 3) := by decide +kernel
theorem dX9_claimAt_46 : decode cX9_claimAt 46 = .ok (.athrow, 1) := by decide +kernel
theorem dX9_claimAt_47 : decode cX9_claimAt 47 = .ok (.aload_n 2, 1) := by decide +kernel
theorem dX9_claimAt_48 : decode cX9_claimAt 48 = .ok (.areturn, 1) := by decide +kernel
theorem dX9_signOf_0 : decode cX9_signOf 0 = .ok (.iload_n 0, 1) := by decide +kernel
theorem dX9_signOf_1 : decode cX9_signOf 1 = .ok (.iconst 1, 1) := by decide +kernel
theorem dX9_signOf_2 : decode cX9_signOf 2 = .ok (.iand, 1) := by decide +kernel
theorem dX9_signOf_3 : decode cX9_signOf 3 = .ok (.ifCond .ne 7, 3) := by decide +kernel
theorem dX9_signOf_6 : decode cX9_signOf 6 = .ok (.iconst 1, 1) := by decide +kernel
theorem dX9_signOf_7 : decode cX9_signOf 7 = .ok (.goto 4, 3) := by decide +kernel
theorem dX9_signOf_10 : decode cX9_signOf 10 = .ok (.iconst (-1), 1) := by decide +kernel
theorem dX9_signOf_11 : decode cX9_signOf 11 = .ok (.ireturn, 1) := by decide +kernel
theorem dX9_tryClaim_0 : decode cX9_tryClaim 0 = .ok (.aload_n 0, 1) := by decide +kernel
theorem dX9_tryClaim_1 : decode cX9_tryClaim 1 = .ok (.aload_n 2, 1) := by decide +kernel
theorem dX9_tryClaim_2 : decode cX9_tryClaim 2 = .ok (.aload_n 1, 1) := by decide +kernel
theorem dX9_tryClaim_3 : decode cX9_tryClaim 3 = .ok (.getfield 256, 3) := by decide +kernel
theorem dX9_tryClaim_6 : decode cX9_tryClaim 6 = .ok (.aload_n 1, 1) := by decide +kernel
theorem dX9_tryClaim_7 : decode cX9_tryClaim 7 = .ok (.getfield 259, 3) := by decide +kernel
theorem dX9_tryClaim_10 : decode cX9_tryClaim 10 = .ok (.invokevirtual 234, 3) := by decide +kernel
theorem dX9_tryClaim_13 : decode cX9_tryClaim 13 = .ok (.iconst (-1), 1) := by decide +kernel
theorem dX9_tryClaim_14 : decode cX9_tryClaim 14 = .ok (.if_icmp .ne 7, 3) := by decide +kernel
theorem dX9_tryClaim_17 : decode cX9_tryClaim 17 = .ok (.iconst 1, 1) := by decide +kernel
theorem dX9_tryClaim_18 : decode cX9_tryClaim 18 = .ok (.goto 4, 3) := by decide +kernel
theorem dX9_tryClaim_21 : decode cX9_tryClaim 21 = .ok (.iconst 0, 1) := by decide +kernel
theorem dX9_tryClaim_22 : decode cX9_tryClaim 22 = .ok (.istore_n 3, 1) := by decide +kernel
theorem dX9_tryClaim_23 : decode cX9_tryClaim 23 = .ok (.aload_n 1, 1) := by decide +kernel
theorem dX9_tryClaim_24 : decode cX9_tryClaim 24 = .ok (.aload_n 0, 1) := by decide +kernel
theorem dX9_tryClaim_25 : decode cX9_tryClaim 25 = .ok (.getfield 44, 3) := by decide +kernel
theorem dX9_tryClaim_28 : decode cX9_tryClaim 28 = .ok (.getfield 200, 3) := by decide +kernel
theorem dX9_tryClaim_31 : decode cX9_tryClaim 31 = .ok (.iload_n 3, 1) := by decide +kernel
theorem dX9_tryClaim_32 : decode cX9_tryClaim 32 = .ok (.invokevirtual 341, 3) := by decide +kernel
theorem dX9_tryClaim_35 : decode cX9_tryClaim 35 = .ok (.aload_n 0, 1) := by decide +kernel
theorem dX9_tryClaim_36 : decode cX9_tryClaim 36 = .ok (.dup, 1) := by decide +kernel
theorem dX9_tryClaim_37 : decode cX9_tryClaim 37 = .ok (.getfield 274, 3) := by decide +kernel
theorem dX9_tryClaim_40 : decode cX9_tryClaim 40 = .ok (.iconst 1, 1) := by decide +kernel
theorem dX9_tryClaim_41 : decode cX9_tryClaim 41 = .ok (.iadd, 1) := by decide +kernel
theorem dX9_tryClaim_42 : decode cX9_tryClaim 42 = .ok (.putfield 274, 3) := by decide +kernel
theorem dX9_tryClaim_45 : decode cX9_tryClaim 45 = .ok (.iload_n 3, 1) := by decide +kernel
theorem dX9_tryClaim_46 : decode cX9_tryClaim 46 = .ok (.ireturn, 1) := by decide +kernel
theorem dX9_firstAgainst_0 : decode cX9_firstAgainst 0 = .ok (.iconst 0, 1) := by decide +kernel
theorem dX9_firstAgainst_1 : decode cX9_firstAgainst 1 = .ok (.istore 4, 2) := by decide +kernel
theorem dX9_firstAgainst_3 : decode cX9_firstAgainst 3 = .ok (.iload 4, 2) := by decide +kernel
theorem dX9_firstAgainst_5 : decode cX9_firstAgainst 5 = .ok (.aload_n 0, 1) := by decide +kernel
theorem dX9_firstAgainst_6 : decode cX9_firstAgainst 6 = .ok (.getfield 44, 3) := by decide +kernel
theorem dX9_firstAgainst_9 : decode cX9_firstAgainst 9 = .ok (.aload_n 1, 1) := by decide +kernel
theorem dX9_firstAgainst_10 : decode cX9_firstAgainst 10 = .ok (.getfield 141, 3) := by decide +kernel
theorem dX9_firstAgainst_13 : decode cX9_firstAgainst 13 = .ok (.invokevirtual 178, 3) := by decide +kernel
theorem dX9_firstAgainst_16 : decode cX9_firstAgainst 16 = .ok (.if_icmp .ge 55, 3) := by decide +kernel
theorem dX9_firstAgainst_19 : decode cX9_firstAgainst 19 = .ok (.aload_n 0, 1) := by decide +kernel
theorem dX9_firstAgainst_20 : decode cX9_firstAgainst 20 = .ok (.getfield 44, 3) := by decide +kernel
theorem dX9_firstAgainst_23 : decode cX9_firstAgainst 23 = .ok (.aload_n 1, 1) := by decide +kernel
theorem dX9_firstAgainst_24 : decode cX9_firstAgainst 24 = .ok (.iload 4, 2) := by decide +kernel
theorem dX9_firstAgainst_26 : decode cX9_firstAgainst 26 = .ok (.invokevirtual 158, 3) := by decide +kernel
theorem dX9_firstAgainst_29 : decode cX9_firstAgainst 29 = .ok (.istore 5, 2) := by decide +kernel
theorem dX9_firstAgainst_31 : decode cX9_firstAgainst 31 = .ok (.aload_n 0, 1) := by decide +kernel
theorem dX9_firstAgainst_32 : decode cX9_firstAgainst 32 = .ok (.getfield 44, 3) := by decide +kernel
theorem dX9_firstAgainst_35 : decode cX9_firstAgainst 35 = .ok (.aload_n 1, 1) := by decide +kernel
theorem dX9_firstAgainst_36 : decode cX9_firstAgainst 36 = .ok (.getfield 141, 3) := by decide +kernel
theorem dX9_firstAgainst_39 : decode cX9_firstAgainst 39 = .ok (.iload_n 2, 1) := by decide +kernel
theorem dX9_firstAgainst_40 : decode cX9_firstAgainst 40 = .ok (.iload 4, 2) := by decide +kernel
theorem dX9_firstAgainst_42 : decode cX9_firstAgainst 42 = .ok (.invokevirtual 185, 3) := by decide +kernel
theorem dX9_firstAgainst_45 : decode cX9_firstAgainst 45 = .ok (.aload_n 0, 1) := by decide +kernel
theorem dX9_firstAgainst_46 : decode cX9_firstAgainst 46 = .ok (.getfield 44, 3) := by decide +kernel
theorem dX9_firstAgainst_49 : decode cX9_firstAgainst 49 = .ok (.aload_n 1, 1) := by decide +kernel
theorem dX9_firstAgainst_50 : decode cX9_firstAgainst 50 = .ok (.getfield 98, 3) := by decide +kernel
theorem dX9_firstAgainst_53 : decode cX9_firstAgainst 53 = .ok (.iload_n 3, 1) := by decide +kernel
theorem dX9_firstAgainst_54 : decode cX9_firstAgainst 54 = .ok (.iload 5, 2) := by decide +kernel
theorem dX9_firstAgainst_56 : decode cX9_firstAgainst 56 = .ok (.invokevirtual 185, 3) := by decide +kernel
theorem dX9_firstAgainst_59 : decode cX9_firstAgainst 59 = .ok (.if_icmp .eq 6, 3) := by decide +kernel
theorem dX9_firstAgainst_62 : decode cX9_firstAgainst 62 = .ok (.iload 4, 2) := by decide +kernel
theorem dX9_firstAgainst_64 : decode cX9_firstAgainst 64 = .ok (.ireturn, 1) := by decide +kernel
theorem dX9_firstAgainst_65 : decode cX9_firstAgainst 65 = .ok (.iinc 4 1, 3) := by decide +kernel
theorem dX9_firstAgainst_68 : decode cX9_firstAgainst 68 = .ok (.goto (-65), 3) := by decide +kernel
theorem dX9_firstAgainst_71 : decode cX9_firstAgainst 71 = .ok (.iconst (-1), 1) := by decide +kernel
theorem dX9_firstAgainst_72 : decode cX9_firstAgainst 72 = .ok (.ireturn, 1) := by decide +kernel
theorem dX9_isPairedOff_0 : decode cX9_isPairedOff 0 = .ok (.aload_n 0, 1) := by decide +kernel
theorem dX9_isPairedOff_1 : decode cX9_isPairedOff 1 = .ok (.getfield 44, 3) := by decide +kernel
theorem dX9_isPairedOff_4 : decode cX9_isPairedOff 4 = .ok (.aload_n 1, 1) := by decide +kernel
theorem dX9_isPairedOff_5 : decode cX9_isPairedOff 5 = .ok (.iload_n 3, 1) := by decide +kernel
theorem dX9_isPairedOff_6 : decode cX9_isPairedOff 6 = .ok (.invokevirtual 158, 3) := by decide +kernel
theorem dX9_isPairedOff_9 : decode cX9_isPairedOff 9 = .ok (.istore 4, 2) := by decide +kernel
theorem dX9_isPairedOff_11 : decode cX9_isPairedOff 11 = .ok (.iload 4, 2) := by decide +kernel
theorem dX9_isPairedOff_13 : decode cX9_isPairedOff 13 = .ok (.iload_n 3, 1) := by decide +kernel
theorem dX9_isPairedOff_14 : decode cX9_isPairedOff 14 = .ok (.if_icmp .ne 5, 3) := by decide +kernel
theorem dX9_isPairedOff_17 : decode cX9_isPairedOff 17 = .ok (.iconst 1, 1) := by decide +kernel
theorem dX9_isPairedOff_18 : decode cX9_isPairedOff 18 = .ok (.ireturn, 1) := by decide +kernel
theorem dX9_isPairedOff_19 : decode cX9_isPairedOff 19 = .ok (.aload_n 1, 1) := by decide +kernel
theorem dX9_isPairedOff_20 : decode cX9_isPairedOff 20 = .ok (.getfield 141, 3) := by decide +kernel
theorem dX9_isPairedOff_23 : decode cX9_isPairedOff 23 = .ok (.istore 5, 2) := by decide +kernel
theorem dX9_isPairedOff_25 : decode cX9_isPairedOff 25 = .ok (.aload_n 0, 1) := by decide +kernel
theorem dX9_isPairedOff_26 : decode cX9_isPairedOff 26 = .ok (.getfield 44, 3) := by decide +kernel
theorem dX9_isPairedOff_29 : decode cX9_isPairedOff 29 = .ok (.aload_n 1, 1) := by decide +kernel
theorem dX9_isPairedOff_30 : decode cX9_isPairedOff 30 = .ok (.iload 4, 2) := by decide +kernel
theorem dX9_isPairedOff_32 : decode cX9_isPairedOff 32 = .ok (.invokevirtual 158, 3) := by decide +kernel
theorem dX9_isPairedOff_35 : decode cX9_isPairedOff 35 = .ok (.iload_n 3, 1) := by decide +kernel
theorem dX9_isPairedOff_36 : decode cX9_isPairedOff 36 = .ok (.if_icmp .ne 39, 3) := by decide +kernel
theorem dX9_isPairedOff_39 : decode cX9_isPairedOff 39 = .ok (.aload_n 0, 1) := by decide +kernel
theorem dX9_isPairedOff_40 : decode cX9_isPairedOff 40 = .ok (.getfield 44, 3) := by decide +kernel
theorem dX9_isPairedOff_43 : decode cX9_isPairedOff 43 = .ok (.iload 5, 2) := by decide +kernel
theorem dX9_isPairedOff_45 : decode cX9_isPairedOff 45 = .ok (.iload_n 2, 1) := by decide +kernel
theorem dX9_isPairedOff_46 : decode cX9_isPairedOff 46 = .ok (.iload_n 3, 1) := by decide +kernel
theorem dX9_isPairedOff_47 : decode cX9_isPairedOff 47 = .ok (.invokevirtual 185, 3) := by decide +kernel
theorem dX9_isPairedOff_50 : decode cX9_isPairedOff 50 = .ok (.invokestatic 192, 3) := by decide +kernel
theorem dX9_isPairedOff_53 : decode cX9_isPairedOff 53 = .ok (.aload_n 0, 1) := by decide +kernel
theorem dX9_isPairedOff_54 : decode cX9_isPairedOff 54 = .ok (.getfield 44, 3) := by decide +kernel
theorem dX9_isPairedOff_57 : decode cX9_isPairedOff 57 = .ok (.iload 5, 2) := by decide +kernel
theorem dX9_isPairedOff_59 : decode cX9_isPairedOff 59 = .ok (.iload_n 2, 1) := by decide +kernel
theorem dX9_isPairedOff_60 : decode cX9_isPairedOff 60 = .ok (.iload 4, 2) := by decide +kernel
theorem dX9_isPairedOff_62 : decode cX9_isPairedOff 62 = .ok (.invokevirtual 185, 3) := by decide +kernel
theorem dX9_isPairedOff_65 : decode cX9_isPairedOff 65 = .ok (.invokestatic 192, 3) := by decide +kernel
theorem dX9_isPairedOff_68 : decode cX9_isPairedOff 68 = .ok (.if_icmp .eq 7, 3) := by decide +kernel
theorem dX9_isPairedOff_71 : decode cX9_isPairedOff 71 = .ok (.iconst 1, 1) := by decide +kernel
theorem dX9_isPairedOff_72 : decode cX9_isPairedOff 72 = .ok (.goto 4, 3) := by decide +kernel
theorem dX9_isPairedOff_75 : decode cX9_isPairedOff 75 = .ok (.iconst 0, 1) := by decide +kernel
theorem dX9_isPairedOff_76 : decode cX9_isPairedOff 76 = .ok (.ireturn, 1) := by decide +kernel
theorem dX9_refutedClaims_0 : decode cX9_refutedClaims 0 = .ok (.iconst 0, 1) := by decide +kernel
theorem dX9_refutedClaims_1 : decode cX9_refutedClaims 1 = .ok (.istore_n 1, 1) := by decide +kernel
theorem dX9_refutedClaims_2 : decode cX9_refutedClaims 2 = .ok (.iconst 0, 1) := by decide +kernel
theorem dX9_refutedClaims_3 : decode cX9_refutedClaims 3 = .ok (.istore_n 2, 1) := by decide +kernel
theorem dX9_refutedClaims_4 : decode cX9_refutedClaims 4 = .ok (.iload_n 2, 1) := by decide +kernel
theorem dX9_refutedClaims_5 : decode cX9_refutedClaims 5 = .ok (.aload_n 0, 1) := by decide +kernel
theorem dX9_refutedClaims_6 : decode cX9_refutedClaims 6 = .ok (.getfield 123, 3) := by decide +kernel
theorem dX9_refutedClaims_9 : decode cX9_refutedClaims 9 = .ok (.if_icmp .ge 23, 3) := by decide +kernel
theorem dX9_refutedClaims_12 : decode cX9_refutedClaims 12 = .ok (.aload_n 0, 1) := by decide +kernel
theorem dX9_refutedClaims_13 : decode cX9_refutedClaims 13 = .ok (.iload_n 2, 1) := by decide +kernel
theorem dX9_refutedClaims_14 : decode cX9_refutedClaims 14 = .ok (.invokevirtual 171, 3) := by decide +kernel
theorem dX9_refutedClaims_17 : decode cX9_refutedClaims 17 = .ok (.getfield 265, 3) := by decide +kernel
theorem dX9_refutedClaims_20 : decode cX9_refutedClaims 20 = .ok (.ifCond .eq 6, 3) := by decide +kernel
theorem dX9_refutedClaims_23 : decode cX9_refutedClaims 23 = .ok (.iinc 1 1, 3) := by decide +kernel
theorem dX9_refutedClaims_26 : decode cX9_refutedClaims 26 = .ok (.iinc 2 1, 3) := by decide +kernel
theorem dX9_refutedClaims_29 : decode cX9_refutedClaims 29 = .ok (.goto (-25), 3) := by decide +kernel
theorem dX9_refutedClaims_32 : decode cX9_refutedClaims 32 = .ok (.iload_n 1, 1) := by decide +kernel
theorem dX9_refutedClaims_33 : decode cX9_refutedClaims 33 = .ok (.ireturn, 1) := by decide +kernel
theorem dL_below_0 : decode cL_below 0 = .ok (.iload_n 0, 1) := by decide +kernel
theorem dL_below_1 : decode cL_below 1 = .ok (.ldc 7, 2) := by decide +kernel
theorem dL_below_3 : decode cL_below 3 = .ok (.iand, 1) := by decide +kernel
theorem dL_below_4 : decode cL_below 4 = .ok (.iload_n 1, 1) := by decide +kernel
theorem dL_below_5 : decode cL_below 5 = .ok (.irem, 1) := by decide +kernel
theorem dL_below_6 : decode cL_below 6 = .ok (.ireturn, 1) := by decide +kernel
theorem dL_cell_0 : decode cL_cell 0 = .ok (.iload_n 1, 1) := by decide +kernel
theorem dL_cell_1 : decode cL_cell 1 = .ok (.aload_n 0, 1) := by decide +kernel
theorem dL_cell_2 : decode cL_cell 2 = .ok (.arraylength, 1) := by decide +kernel
theorem dL_cell_3 : decode cL_cell 3 = .ok (.if_icmp .ge 9, 3) := by decide +kernel
theorem dL_cell_6 : decode cL_cell 6 = .ok (.aload_n 0, 1) := by decide +kernel
theorem dL_cell_7 : decode cL_cell 7 = .ok (.iload_n 1, 1) := by decide +kernel
