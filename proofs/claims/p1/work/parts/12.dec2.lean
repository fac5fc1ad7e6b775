theorem dX9_needFamily_6 : decode cX9_needFamily 6 = .ok (.if_icmp .lt 14, 3) := by decide +kernel
theorem dX9_needFamily_9 : decode cX9_needFamily 9 = .ok (.new 323, 3) := by decide +kernel
theorem dX9_needFamily_12 : decode cX9_needFamily 12 = .ok (.dup, 1) := by decide +kernel
theorem dX9_needFamily_13 : decode cX9_needFamily 13 = .ok (.ldc_w 325, 3) := by decide +kernel
theorem dX9_needFamily_16 : decode cX9_needFamily 16 = .ok (.invokespecial 327, 3) := by decide +kernel
theorem dX9_needFamily_19 : decode cX9_needFamily 19 = .ok (.athrow, 1) := by decide +kernel
theorem dX9_needFamily_20 : decode cX9_needFamily 20 = .ok (.return_, 1) := by decide +kernel
theorem dX9_needStatistic_0 : decode cX9_needStatistic 0 = .ok (.iload_n 0, 1) := by decide +kernel
theorem dX9_needStatistic_1 : decode cX9_needStatistic 1 = .ok (.ifCond .lt 8, 3) := by decide +kernel
theorem dX9_needStatistic_4 : decode cX9_needStatistic 4 = .ok (.iload_n 0, 1) := by decide +kernel
theorem dX9_needStatistic_5 : decode cX9_needStatistic 5 = .ok (.iconst 4, 1) := by decide +kernel
theorem dX9_needStatistic_6 : decode cX9_needStatistic 6 = .ok (.if_icmp .lt 14, 3) := by decide +kernel
theorem dX9_needStatistic_9 : decode cX9_needStatistic 9 = .ok (.new 48, 3) := by decide +kernel
theorem dX9_needStatistic_12 : decode cX9_needStatistic 12 = .ok (.dup, 1) := by decide +kernel
theorem dX9_needStatistic_13 : decode cX9_needStatistic 13 = .ok (.ldc_w 328, 3) := by decide +kernel
theorem dX9_needStatistic_16 : decode cX9_needStatistic 16 = .ok (.invokespecial 52, 3) := by decide +kernel
theorem dX9_needStatistic_19 : decode cX9_needStatistic 19 = .ok (.athrow, 1) := by decide +kernel
theorem dX9_needStatistic_20 : decode cX9_needStatistic 20 = .ok (.return_, 1) := by decide +kernel
theorem dX9_needRank_0 : decode cX9_needRank 0 = .ok (.iload_n 1, 1) := by decide +kernel
theorem dX9_needRank_1 : decode cX9_needRank 1 = .ok (.invokestatic 106, 3) := by decide +kernel
theorem dX9_needRank_4 : decode cX9_needRank 4 = .ok (.iload_n 2, 1) := by decide +kernel
theorem dX9_needRank_5 : decode cX9_needRank 5 = .ok (.ifCond .lt 15, 3) := by decide +kernel
theorem dX9_needRank_8 : decode cX9_needRank 8 = .ok (.iload_n 2, 1) := by decide +kernel
theorem dX9_needRank_9 : decode cX9_needRank 9 = .ok (.aload_n 0, 1) := by decide +kernel
theorem dX9_needRank_10 : decode cX9_needRank 10 = .ok (.getfield 44, 3) := by decide +kernel
theorem dX9_needRank_13 : decode cX9_needRank 13 = .ok (.iload_n 1, 1) := by decide +kernel
theorem dX9_needRank_14 : decode cX9_needRank 14 = .ok (.invokevirtual 178, 3) := by decide +kernel
theorem dX9_needRank_17 : decode cX9_needRank 17 = .ok (.if_icmp .lt 14, 3) := by decide +kernel
theorem dX9_needRank_20 : decode cX9_needRank 20 = .ok (.new 323, 3) := by decide +kernel
theorem dX9_needRank_23 : decode cX9_needRank 23 = .ok (.dup, 1) := by decide +kernel
theorem dX9_needRank_24 : decode cX9_needRank 24 = .ok (.ldc_w 330, 3) := by decide +kernel
theorem dX9_needRank_27 : decode cX9_needRank 27 = .ok (.invokespecial 327, 3) := by decide +kernel
theorem dX9_needRank_30 : decode cX9_needRank 30 = .ok (.athrow, 1) := by decide +kernel
theorem dX9_needRank_31 : decode cX9_needRank 31 = .ok (.return_, 1) := by decide +kernel
theorem dX9_chartAt_0 : decode cX9_chartAt 0 = .ok (.iload_n 1, 1) := by decide +kernel
theorem dX9_chartAt_1 : decode cX9_chartAt 1 = .ok (.ifCond .lt 29, 3) := by decide +kernel
theorem dX9_chartAt_4 : decode cX9_chartAt 4 = .ok (.iload_n 1, 1) := by decide +kernel
theorem dX9_chartAt_5 : decode cX9_chartAt 5 = .ok (.aload_n 0, 1) := by decide +kernel
theorem dX9_chartAt_6 : decode cX9_chartAt 6 = .ok (.getfield 63, 3) := by decide +kernel
theorem dX9_chartAt_9 : decode cX9_chartAt 9 = .ok (.if_icmp .ge 21, 3) := by decide +kernel
theorem dX9_chartAt_12 : decode cX9_chartAt 12 = .ok (.iload_n 1, 1) := by decide +kernel
theorem dX9_chartAt_13 : decode cX9_chartAt 13 = .ok (.aload_n 0, 1) := by decide +kernel
theorem dX9_chartAt_14 : decode cX9_chartAt 14 = .ok (.getfield 24, 3) := by decide +kernel
theorem dX9_chartAt_17 : decode cX9_chartAt 17 = .ok (.arraylength, 1) := by decide +kernel
theorem dX9_chartAt_18 : decode cX9_chartAt 18 = .ok (.if_icmp .ge 12, 3) := by decide +kernel
theorem dX9_chartAt_21 : decode cX9_chartAt 21 = .ok (.aload_n 0, 1) := by decide +kernel
theorem dX9_chartAt_22 : decode cX9_chartAt 22 = .ok (.getfield 24, 3) := by decide +kernel
theorem dX9_chartAt_25 : decode cX9_chartAt 25 = .ok (.iload_n 1, 1) := by decide +kernel
theorem dX9_chartAt_26 : decode cX9_chartAt 26 = .ok (.aaload, 1) := by decide +kernel
theorem dX9_chartAt_27 : decode cX9_chartAt 27 = .ok (.goto 4, 3) := by decide +kernel
theorem dX9_chartAt_30 : decode cX9_chartAt 30 = .ok (.aconst_null, 1) := by decide +kernel
theorem dX9_chartAt_31 : decode cX9_chartAt 31 = .ok (.astore_n 2, 1) := by decide +kernel
theorem dX9_chartAt_32 : decode cX9_chartAt 32 = .ok (.aload_n 2, 1) := by decide +kernel
theorem dX9_chartAt_33 : decode cX9_chartAt 33 = .ok (.ifnonnull 14, 3) := by decide +kernel
theorem dX9_chartAt_36 : decode cX9_chartAt 36 = .ok (.new 323, 3) := by decide +kernel
theorem dX9_chartAt_39 : decode cX9_chartAt 39 = .ok (.dup, 1) := by decide +kernel
theorem dX9_chartAt_40 : decode cX9_chartAt 40 = .ok (.ldc_w 332, 3) := by decide +kernel
theorem dX9_chartAt_43 : decode cX9_chartAt 43 = .ok (.invokespecial 327, 3) := by decide +kernel
theorem dX9_chartAt_46 : decode cX9_chartAt 46 = .ok (.athrow, 1) := by decide +kernel
theorem dX9_chartAt_47 : decode cX9_chartAt 47 = .ok (.aload_n 2, 1) := by decide +kernel
theorem dX9_chartAt_48 : decode cX9_chartAt 48 = .ok (.areturn, 1) := by decide +kernel
theorem dX9_walkerAt_0 : decode cX9_walkerAt 0 = .ok (.iload_n 1, 1) := by decide +kernel
theorem dX9_walkerAt_1 : decode cX9_walkerAt 1 = .ok (.ifCond .lt 29, 3) := by decide +kernel
theorem dX9_walkerAt_4 : decode cX9_walkerAt 4 = .ok (.iload_n 1, 1) := by decide +kernel
theorem dX9_walkerAt_5 : decode cX9_walkerAt 5 = .ok (.aload_n 0, 1) := by decide +kernel
theorem dX9_walkerAt_6 : decode cX9_walkerAt 6 = .ok (.getfield 55, 3) := by decide +kernel
theorem dX9_walkerAt_9 : decode cX9_walkerAt 9 = .ok (.if_icmp .ge 21, 3) := by decide +kernel
theorem dX9_walkerAt_12 : decode cX9_walkerAt 12 = .ok (.iload_n 1, 1) := by decide +kernel
theorem dX9_walkerAt_13 : decode cX9_walkerAt 13 = .ok (.aload_n 0, 1) := by decide +kernel
theorem dX9_walkerAt_14 : decode cX9_walkerAt 14 = .ok (.getfield 30, 3) := by decide +kernel
theorem dX9_walkerAt_17 : decode cX9_walkerAt 17 = .ok (.arraylength, 1) := by decide +kernel
theorem dX9_walkerAt_18 : decode cX9_walkerAt 18 = .ok (.if_icmp .ge 12, 3) := by decide +kernel
theorem dX9_walkerAt_21 : decode cX9_walkerAt 21 = .ok (.aload_n 0, 1) := by decide +kernel
theorem dX9_walkerAt_22 : decode cX9_walkerAt 22 = .ok (.getfield 30, 3) := by decide +kernel
theorem dX9_walkerAt_25 : decode cX9_walkerAt 25 = .ok (.iload_n 1, 1) := by decide +kernel
theorem dX9_walkerAt_26 : decode cX9_walkerAt 26 = .ok (.aaload, 1) := by decide +kernel
theorem dX9_walkerAt_27 : decode cX9_walkerAt 27 = .ok (.goto 4, 3) := by decide +kernel
theorem dX9_walkerAt_30 : decode cX9_walkerAt 30 = .ok (.aconst_null, 1) := by decide +kernel
theorem dX9_walkerAt_31 : decode cX9_walkerAt 31 = .ok (.astore_n 2, 1) := by decide +kernel
theorem dX9_walkerAt_32 : decode cX9_walkerAt 32 = .ok (.aload_n 2, 1) := by decide +kernel
theorem dX9_walkerAt_33 : decode cX9_walkerAt 33 = .ok (.ifnonnull 14, 3) := by decide +kernel
theorem dX9_walkerAt_36 : decode cX9_walkerAt 36 = .ok (.new 323, 3) := by decide +kernel
theorem dX9_walkerAt_39 : decode cX9_walkerAt 39 = .ok (.dup, 1) := by decide +kernel
theorem dX9_walkerAt_40 : decode cX9_walkerAt 40 = .ok (.ldc_w 334, 3) := by decide +kernel
theorem dX9_walkerAt_43 : decode cX9_walkerAt 43 = .ok (.invokespecial 327, 3) := by decide +kernel
theorem dX9_walkerAt_46 : decode cX9_walkerAt 46 = .ok (.athrow, 1) := by decide +kernel
theorem dX9_walkerAt_47 : decode cX9_walkerAt 47 = .ok (.aload_n 2, 1) := by decide +kernel
theorem dX9_walkerAt_48 : decode cX9_walkerAt 48 = .ok (.areturn, 1) := by decide +kernel
theorem dX9_claimAt_0 : decode cX9_claimAt 0 = .ok (.iload_n 1, 1) := by decide +kernel
theorem dX9_claimAt_1 : decode cX9_claimAt 1 = .ok (.ifCond .lt 29, 3) := by decide +kernel
theorem dX9_claimAt_4 : decode cX9_claimAt 4 = .ok (.iload_n 1, 1) := by decide +kernel
theorem dX9_claimAt_5 : decode cX9_claimAt 5 = .ok (.aload_n 0, 1) := by decide +kernel
theorem dX9_claimAt_6 : decode cX9_claimAt 6 = .ok (.getfield 123, 3) := by decide +kernel
theorem dX9_claimAt_9 : decode cX9_claimAt 9 = .ok (.if_icmp .ge 21, 3) := by decide +kernel
theorem dX9_claimAt_12 : decode cX9_claimAt 12 = .ok (.iload_n 1, 1) := by decide +kernel
theorem dX9_claimAt_13 : decode cX9_claimAt 13 = .ok (.aload_n 0, 1) := by decide +kernel
theorem dX9_claimAt_14 : decode cX9_claimAt 14 = .ok (.getfield 36, 3) := by decide +kernel
theorem dX9_claimAt_17 : decode cX9_claimAt 17 = .ok (.arraylength, 1) := by decide +kernel
theorem dX9_claimAt_18 : decode cX9_claimAt 18 = .ok (.if_icmp .ge 12, 3) := by decide +kernel
theorem dX9_claimAt_21 : decode cX9_claimAt 21 = .ok (.aload_n 0, 1) := by decide +kernel
theorem dX9_claimAt_22 : decode cX9_claimAt 22 = .ok (.getfield 36, 3) := by decide +kernel
theorem dX9_claimAt_25 : decode cX9_claimAt 25 = .ok (.iload_n 1, 1) := by decide +kernel
theorem dX9_claimAt_26 : decode cX9_claimAt 26 = .ok (.aaload, 1) := by decide +kernel
theorem dX9_claimAt_27 : decode cX9_claimAt 27 = .ok (.goto 4, 3) := by decide +kernel
theorem dX9_claimAt_30 : decode cX9_claimAt 30 = .ok (.aconst_null, 1) := by decide +kernel
theorem dX9_claimAt_31 : decode cX9_claimAt 31 = .ok (.astore_n 2, 1) := by decide +kernel
theorem dX9_claimAt_32 : decode cX9_claimAt 32 = .ok (.aload_n 2, 1) := by decide +kernel
theorem dX9_claimAt_33 : decode cX9_claimAt 33 = .ok (.ifnonnull 14, 3) := by decide +kernel
theorem dX9_claimAt_36 : decode cX9_claimAt 36 = .ok (.new 323, 3) := by decide +kernel
theorem dX9_claimAt_39 : decode cX9_claimAt 39 = .ok (.dup, 1) := by decide +kernel
theorem dX9_claimAt_40 : decode cX9_claimAt 40 = .ok (.ldc_w 336, 3) := by decide +kernel
theorem dX9_claimAt_43 : decode cX9_claimAt 43 = .ok (.invokespecial 327, 3) := by decide +kernel
theorem dX9_claimAt_46 : decode cX9_claimAt 46 = .ok (.athrow, 1) := by decide +kernel
theorem dX9_claimAt_47 : decode cX9_claimAt 47 = .ok (.aload_n 2, 1) := by decide +kernel
theorem dX9_claimAt_48 : decode cX9_claimAt 48 = .ok (.areturn, 1) := by decide +kernel
theorem dX9_signOf_0 : decode cX9_signOf 0 = .ok (.iload_n 0, 1) := by decide +kernel
theorem dX9_signOf_1 : decode cX9_signOf 1 = .ok (.iconst 1, 1) := by decide +kernel
theorem dX9_signOf_2 : decode cX9_signOf 2 = .ok (.iand, 1) := by decide +kernel
theorem dX9_signOf_3 : decode cX9_signOf 3 = .ok (.ifCond .ne 7, 3) := by decide +kernel
theorem dX9_signOf_6 : decode cX9_signOf 6 = .ok (.iconst 1, 1) := by decide +kernel
theorem dX9_signOf_7 : decode cX9_signOf 7 = .ok (.goto 4, 3) := by decide +kernel
theorem dX9_signOf_10 : decode cX9_signOf 10 = .ok (.iconst (-1), 1) := by decide +kernel
theorem dX9_signOf_11 : decode cX9_signOf 11 = .ok (.ireturn, 1) := by decide +kernel
theorem dX9_patternLength_0 : decode cX9_patternLength 0 = .ok (.iconst 2, 1) := by decide +kernel
theorem dX9_patternLength_1 : decode cX9_patternLength 1 = .ok (.istore_n 1, 1) := by decide +kernel
theorem dX9_patternLength_2 : decode cX9_patternLength 2 = .ok (.iload_n 1, 1) := by decide +kernel
theorem dX9_patternLength_3 : decode cX9_patternLength 3 = .ok (.iconst 4, 1) := by decide +kernel
theorem dX9_patternLength_4 : decode cX9_patternLength 4 = .ok (.if_icmp .gt 19, 3) := by decide +kernel
theorem dX9_patternLength_7 : decode cX9_patternLength 7 = .ok (.iload_n 0, 1) := by decide +kernel
theorem dX9_patternLength_8 : decode cX9_patternLength 8 = .ok (.iload_n 1, 1) := by decide +kernel
theorem dX9_patternLength_9 : decode cX9_patternLength 9 = .ok (.invokestatic 338, 3) := by decide +kernel
theorem dX9_patternLength_12 : decode cX9_patternLength 12 = .ok (.ifCond .eq 5, 3) := by decide +kernel
theorem dX9_patternLength_15 : decode cX9_patternLength 15 = .ok (.iload_n 1, 1) := by decide +kernel
theorem dX9_patternLength_16 : decode cX9_patternLength 16 = .ok (.ireturn, 1) := by decide +kernel
theorem dX9_patternLength_17 : decode cX9_patternLength 17 = .ok (.iinc 1 1, 3) := by decide +kernel
theorem dX9_patternLength_20 : decode cX9_patternLength 20 = .ok (.goto (-18), 3) := by decide +kernel
theorem dX9_patternLength_23 : decode cX9_patternLength 23 = .ok (.iconst (-1), 1) := by decide +kernel
theorem dX9_patternLength_24 : decode cX9_patternLength 24 = .ok (.ireturn, 1) := by decide +kernel
theorem dX9_tryClaim_0 : decode cX9_tryClaim 0 = .ok (.aload_n 0, 1) := by decide +kernel
theorem dX9_tryClaim_1 : decode cX9_tryClaim 1 = .ok (.aload_n 2, 1) := by decide +kernel
theorem dX9_tryClaim_2 : decode cX9_tryClaim 2 = .ok (.aload_n 1, 1) := by decide +kernel
theorem dX9_tryClaim_3 : decode cX9_tryClaim 3 = .ok (.getfield 256, 3) := by decide +kernel
theorem dX9_tryClaim_6 : decode cX9_tryClaim 6 = .ok (.aload_n 1, 1) := by decide +kernel
theorem dX9_tryClaim_7 : decode cX9_tryClaim 7 = .ok (.getfield 259, 3) := by decide +kernel
theorem dX9_tryClaim_10 : decode cX9_tryClaim 10 = .ok (.invokevirtual 234, 3) := by decide +kernel
theorem dX9_tryClaim_13 : decode cX9_tryClaim 13 = .ok (.iconst (-1), 1) := by decide +kernel
theorem dX9_tryClaim_14 : decode cX9_tryClaim 14 = .ok (.if_icmp .ne 7, 3) := by decide +kernel
theorem dX9_tryClaim_17 : decode cX9_tryClaim 17 = .ok (.iconst 1, 1) := by decide +kernel
theorem dX9_tryClaim_18 : decode cX9_tryClaim 18 = .ok (.goto 4, 3) := by decide +kernel
theorem dX9_tryClaim_21 : decode cX9_tryClaim 21 = .ok (.iconst 0, 1) := by decide +kernel
theorem dX9_tryClaim_22 : decode cX9_tryClaim 22 = .ok (.istore_n 3, 1) := by decide +kernel
theorem dX9_tryClaim_23 : decode cX9_tryClaim 23 = .ok (.aload_n 1, 1) := by decide +kernel
theorem dX9_tryClaim_24 : decode cX9_tryClaim 24 = .ok (.aload_n 0, 1) := by decide +kernel
theorem dX9_tryClaim_25 : decode cX9_tryClaim 25 = .ok (.getfield 44, 3) := by decide +kernel
theorem dX9_tryClaim_28 : decode cX9_tryClaim 28 = .ok (.getfield 200, 3) := by decide +kernel
theorem dX9_tryClaim_31 : decode cX9_tryClaim 31 = .ok (.iload_n 3, 1) := by decide +kernel
theorem dX9_tryClaim_32 : decode cX9_tryClaim 32 = .ok (.invokevirtual 341, 3) := by decide +kernel
theorem dX9_tryClaim_35 : decode cX9_tryClaim 35 = .ok (.aload_n 0, 1) := by decide +kernel
theorem dX9_tryClaim_36 : decode cX9_tryClaim 36 = .ok (.dup, 1) := by decide +kernel
theorem dX9_tryClaim_37 : decode cX9_tryClaim 37 = .ok (.getfield 274, 3) := by decide +kernel
theorem dX9_tryClaim_40 : decode cX9_tryClaim 40 = .ok (.iconst 1, 1) := by decide +kernel
theorem dX9_tryClaim_41 : decode cX9_tryClaim 41 = .ok (.iadd, 1) := by decide +kernel
theorem dX9_tryClaim_42 : decode cX9_tryClaim 42 = .ok (.putfield 274, 3) := by decide +kernel
theorem dX9_tryClaim_45 : decode cX9_tryClaim 45 = .ok (.iload_n 3, 1) := by decide +kernel
theorem dX9_tryClaim_46 : decode cX9_tryClaim 46 = .ok (.ireturn, 1) := by decide +kernel
theorem dX9_firstAgainst_0 : decode cX9_firstAgainst 0 = .ok (.iconst 0, 1) := by decide +kernel
theorem dX9_firstAgainst_1 : decode cX9_firstAgainst 1 = .ok (.istore 4, 2) := by decide +kernel
theorem dX9_firstAgainst_3 : decode cX9_firstAgainst 3 = .ok (.iload 4, 2) := by decide +kernel
theorem dX9_firstAgainst_5 : decode cX9_firstAgainst 5 = .ok (.aload_n 0, 1) := by decide +kernel
theorem dX9_firstAgainst_6 : decode cX9_firstAgainst 6 = .ok (.getfield 44, 3) := by decide +kernel
theorem dX9_firstAgainst_9 : decode cX9_firstAgainst 9 = .ok (.aload_n 1, 1) := by decide +kernel
theorem dX9_firstAgainst_10 : decode cX9_firstAgainst 10 = .ok (.getfield 141, 3) := by decide +kernel
theorem dX9_firstAgainst_13 : decode cX9_firstAgainst 13 = .ok (.invokevirtual 178, 3) := by decide +kernel
theorem dX9_firstAgainst_16 : decode cX9_firstAgainst 16 = .ok (.if_icmp .ge 55, 3) := by decide +kernel
theorem dX9_firstAgainst_19 : decode cX9_firstAgainst 19 = .ok (.aload_n 0, 1) := by decide +kernel
theorem dX9_firstAgainst_20 : decode cX9_firstAgainst 20 = .ok (.getfield 44, 3) := by decide +kernel
theorem dX9_firstAgainst_23 : decode cX9_firstAgainst 23 = .ok (.aload_n 1, 1) := by decide +kernel
theorem dX9_firstAgainst_24 : decode cX9_firstAgainst 24 = .ok (.iload 4, 2) := by decide +kernel
theorem dX9_firstAgainst_26 : decode cX9_firstAgainst 26 = .ok (.invokevirtual 158, 3) := by decide +kernel
theorem dX9_firstAgainst_29 : decode cX9_firstAgainst 29 = .ok (.istore 5, 2) := by decide +kernel
theorem dX9_firstAgainst_31 : decode cX9_firstAgainst 31 = .ok (.aload_n 0, 1) := by decide +kernel
theorem dX9_firstAgainst_32 : decode cX9_firstAgainst 32 = .ok (.getfield 44, 3) := by decide +kernel
theorem dX9_firstAgainst_35 : decode cX9_firstAgainst 35 = .ok (.aload_n 1, 1) := by decide +kernel
theorem dX9_firstAgainst_36 : decode cX9_firstAgainst 36 = .ok (.getfield 141, 3) := by decide +kernel
theorem dX9_firstAgainst_39 : decode cX9_firstAgainst 39 = .ok (.iload_n 2, 1) := by decide +kernel
theorem dX9_firstAgainst_40 : decode cX9_firstAgainst 40 = .ok (.iload 4, 2) := by decide +kernel
theorem dX9_firstAgainst_42 : decode cX9_firstAgainst 42 = .ok (.invokevirtual 185, 3) := by decide +kernel
theorem dX9_firstAgainst_45 : decode cX9_firstAgainst 45 = .ok (.aload_n 0, 1) := by decide +kernel
theorem dX9_firstAgainst_46 : decode cX9_firstAgainst 46 = .ok (.getfield 44, 3) := by decide +kernel
theorem dX9_firstAgainst_49 : decode cX9_firstAgainst 49 = .ok (.aload_n 1, 1) := by decide +kernel
theorem dX9_firstAgainst_50 : decode cX9_firstAgainst 50 = .ok (.getfield 98, 3) := by decide +kernel
theorem dX9_firstAgainst_53 : decode cX9_firstAgainst 53 = .ok (.iload_n 3, 1) := by decide +kernel
theorem dX9_firstAgainst_54 : decode cX9_firstAgainst 54 = .ok (.iload 5, 2) := by decide +kernel
theorem dX9_firstAgainst_56 : decode cX9_firstAgainst 56 = .ok (.invokevirtual 185, 3) := by decide +kernel
theorem dX9_firstAgainst_59 : decode cX9_firstAgainst 59 = .ok (.if_icmp .eq 6, 3) := by decide +kernel
theorem dX9_firstAgainst_62 : decode cX9_firstAgainst 62 = .ok (.iload 4, 2) := by decide +kernel
theorem dX9_firstAgainst_64 : decode cX9_firstAgainst 64 = .ok (.ireturn, 1) := by decide +kernel
theorem dX9_firstAgainst_65 : decode cX9_firstAgainst 65 = .ok (.iinc 4 1, 3) := by decide +kernel
theorem dX9_firstAgainst_68 : decode cX9_firstAgainst 68 = .ok (.goto (-65), 3) := by decide +kernel
theorem dX9_firstAgainst_71 : decode cX9_firstAgainst 71 = .ok (.iconst (-1), 1) := by decide +kernel
theorem dX9_firstAgainst_72 : decode cX9_firstAgainst 72 = .ok (.ireturn, 1) := by decide +kernel
theorem dX9_isPairedOff_0 : decode cX9_isPairedOff 0 = .ok (.aload_n 0, 1) := by decide +kernel
theorem dX9_isPairedOff_1 : decode cX9_isPairedOff 1 = .ok (.getfield 44, 3) := by decide +kernel
theorem dX9_isPairedOff_4 : decode cX9_isPairedOff 4 = .ok (.aload_n 1, 1) := by decide +kernel
theorem dX9_isPairedOff_5 : decode cX9_isPairedOff 5 = .ok (.iload_n 3, 1) := by decide +kernel
theorem dX9_isPairedOff_6 : decode cX9_isPairedOff 6 = .ok (.invokevirtual 158, 3) := by decide +kernel
theorem dX9_isPairedOff_9 : decode cX9_isPairedOff 9 = .ok (.istore 4, 2) := by decide +kernel
theorem dX9_isPairedOff_11 : decode cX9_isPairedOff 11 = .ok (.iload 4, 2) := by decide +kernel
theorem dX9_isPairedOff_13 : decode cX9_isPairedOff 13 = .ok (.iload_n 3, 1) := by decide +kernel
theorem dX9_isPairedOff_14 : decode cX9_isPairedOff 14 = .ok (.if_icmp .ne 5, 3) := by decide +kernel
theorem dX9_isPairedOff_17 : decode cX9_isPairedOff 17 = .ok (.iconst 1, 1) := by decide +kernel
theorem dX9_isPairedOff_18 : decode cX9_isPairedOff 18 = .ok (.ireturn, 1) := by decide +kernel
theorem dX9_isPairedOff_19 : decode cX9_isPairedOff 19 = .ok (.aload_n 1, 1) := by decide +kernel
theorem dX9_isPairedOff_20 : decode cX9_isPairedOff 20 = .ok (.getfield 141, 3) := by decide +kernel
theorem dX9_isPairedOff_23 : decode cX9_isPairedOff 23 = .ok (.istore 5, 2) := by decide +kernel
theorem dX9_isPairedOff_25 : decode cX9_isPairedOff 25 = .ok (.aload_n 0, 1) := by decide +kernel
theorem dX9_isPairedOff_26 : decode cX9_isPairedOff 26 = .ok (.getfield 44, 3) := by decide +kernel
theorem dX9_isPairedOff_29 : decode cX9_isPairedOff 29 = .ok (.aload_n 1, 1) := by decide +kernel
theorem dX9_isPairedOff_30 : decode cX9_isPairedOff 30 = .ok (.iload 4, 2) := by decide +kernel
theorem dX9_isPairedOff_32 : decode cX9_isPairedOff 32 = .ok (.invokevirtual 158, 3) := by decide +kernel
theorem dX9_isPairedOff_35 : decode cX9_isPairedOff 35 = .ok (.iload_n 3, 1) := by decide +kernel
theorem dX9_isPairedOff_36 : decode cX9_isPairedOff 36 = .ok (.if_icmp .ne 39, 3) := by decide +kernel
theorem dX9_isPairedOff_39 : decode cX9_isPairedOff 39 = .ok (.aload_n 0, 1) := by decide +kernel
theorem dX9_isPairedOff_40 : decode cX9_isPairedOff 40 = .ok (.getfield 44, 3) := by decide +kernel
theorem dX9_isPairedOff_43 : decode cX9_isPairedOff 43 = .ok (.iload 5, 2) := by decide +kernel
theorem dX9_isPairedOff_45 : decode cX9_isPairedOff 45 = .ok (.iload_n 2, 1) := by decide +kernel
theorem dX9_isPairedOff_46 : decode cX9_isPairedOff 46 = .ok (.iload_n 3, 1) := by decide +kernel
theorem dX9_isPairedOff_47 : decode cX9_isPairedOff 47 = .ok (.invokevirtual 185, 3) := by decide +kernel
theorem dX9_isPairedOff_50 : decode cX9_isPairedOff 50 = .ok (.invokestatic 192, 3) := by decide +kernel
theorem dX9_isPairedOff_53 : decode cX9_isPairedOff 53 = .ok (.aload_n 0, 1) := by decide +kernel
theorem dX9_isPairedOff_54 : decode cX9_isPairedOff 54 = .ok (.getfield 44, 3) := by decide +kernel
theorem dX9_isPairedOff_57 : decode cX9_isPairedOff 57 = .ok (.iload 5, 2) := by decide +kernel
theorem dX9_isPairedOff_59 : decode cX9_isPairedOff 59 = .ok (.iload_n 2, 1) := by decide +kernel
theorem dX9_isPairedOff_60 : decode cX9_isPairedOff 60 = .ok (.iload 4, 2) := by decide +kernel
theorem dX9_isPairedOff_62 : decode cX9_isPairedOff 62 = .ok (.invokevirtual 185, 3) := by decide +kernel
theorem dX9_isPairedOff_65 : decode cX9_isPairedOff 65 = .ok (.invokestatic 192, 3) := by decide +kernel
theorem dX9_isPairedOff_68 : decode cX9_isPairedOff 68 = .ok (.if_icmp .eq 7, 3) := by decide +kernel
theorem dX9_isPairedOff_71 : decode cX9_isPairedOff 71 = .ok (.iconst 1, 1) := by decide +kernel
theorem dX9_isPairedOff_72 : decode cX9_isPairedOff 72 = .ok (.goto 4, 3) := by decide +kernel
theorem dX9_isPairedOff_75 : decode cX9_isPairedOff 75 = .ok (.iconst 0, 1) := by decide +kernel
theorem dX9_isPairedOff_76 : decode cX9_isPairedOff 76 = .ok (.ireturn, 1) := by decide +kernel
theorem dX9_refutedClaims_0 : decode cX9_refutedClaims 0 = .ok (.iconst 0, 1) := by decide +kernel
theorem dX9_refutedClaims_1 : decode cX9_refutedClaims 1 = .ok (.istore_n 1, 1) := by decide +kernel
theorem dX9_refutedClaims_2 : decode cX9_refutedClaims 2 = .ok (.iconst 0, 1) := by decide +kernel
theorem dX9_refutedClaims_3 : decode cX9_refutedClaims 3 = .ok (.istore_n 2, 1) := by decide +kernel
theorem dX9_refutedClaims_4 : decode cX9_refutedClaims 4 = .ok (.iload_n 2, 1) := by decide +kernel
theorem dX9_refutedClaims_5 : decode cX9_refutedClaims 5 = .ok (.aload_n 0, 1) := by decide +kernel
theorem dX9_refutedClaims_6 : decode cX9_refutedClaims 6 = .ok (.getfield 123, 3) := by decide +kernel
theorem dX9_refutedClaims_9 : decode cX9_refutedClaims 9 = .ok (.if_icmp .ge 23, 3) := by decide +kernel
theorem dX9_refutedClaims_12 : decode cX9_refutedClaims 12 = .ok (.aload_n 0, 1) := by decide +kernel
theorem dX9_refutedClaims_13 : decode cX9_refutedClaims 13 = .ok (.iload_n 2, 1) := by decide +kernel
theorem dX9_refutedClaims_14 : decode cX9_refutedClaims 14 = .ok (.invokevirtual 171, 3) := by decide +kernel
theorem dX9_refutedClaims_17 : decode cX9_refutedClaims 17 = .ok (.getfield 265, 3) := by decide +kernel
theorem dX9_refutedClaims_20 : decode cX9_refutedClaims 20 = .ok (.ifCond .eq 6, 3) := by decide +kernel
theorem dX9_refutedClaims_23 : decode cX9_refutedClaims 23 = .ok (.iinc 1 1, 3) := by decide +kernel
theorem dX9_refutedClaims_26 : decode cX9_refutedClaims 26 = .ok (.iinc 2 1, 3) := by decide +kernel
theorem dX9_refutedClaims_29 : decode cX9_refutedClaims 29 = .ok (.goto (-25), 3) := by decide +kernel
theorem dX9_refutedClaims_32 : decode cX9_refutedClaims 32 = .ok (.iload_n 1, 1) := by decide +kernel
theorem dX9_refutedClaims_33 : decode cX9_refutedClaims 33 = .ok (.ireturn, 1) := by decide +kernel
