theorem dX9_digestOfMap_95 : decode cX9_digestOfMap 95 = .ok (.ladd, 1) := by decide +kernel
theorem dX9_digestOfMap_96 : decode cX9_digestOfMap 96 = .ok (.lreturn, 1) := by decide +kernel
theorem dX9_needStep_0 : decode cX9_needStep 0 = .ok (.iload_n 0, 1) := by decide +kernel
theorem dX9_needStep_1 : decode cX9_needStep 1 = .ok (.ifCond .lt 9, 3) := by decide +kernel
theorem dX9_needStep_4 : decode cX9_needStep 4 = .ok (.iload_n 0, 1) := by decide +kernel
theorem dX9_needStep_5 : decode cX9_needStep 5 = .ok (.bipush 11, 2) := by decide +kernel
theorem dX9_needStep_7 : decode cX9_needStep 7 = .ok (.if_icmp .lt 14, 3) := by decide +kernel
theorem dX9_needStep_10 : decode cX9_needStep 10 = .ok (.new 48, 3) := by decide +kernel
theorem dX9_needStep_13 : decode cX9_needStep 13 = .ok (.dup, 1) := by decide +kernel
theorem dX9_needStep_14 : decode cX9_needStep 14 = .ok (.ldc_w 321, 3) := by decide +kernel
theorem dX9_needStep_17 : decode cX9_needStep 17 = .ok (.invokespecial 52, 3) := by decide +kernel
theorem dX9_needStep_20 : decode cX9_needStep 20 = .ok (.athrow, 1) := by decide +kernel
theorem dX9_needStep_21 : decode cX9_needStep 21 = .ok (.return_, 1) := by decide +kernel
theorem dX9_needFamily_0 : decode cX9_needFamily 0 = .ok (.iload_n 0, 1) := by decide +kernel
theorem dX9_needFamily_1 : decode cX9_needFamily 1 = .ok (.ifCond .lt 8, 3) := by decide +kernel
theorem dX9_needFamily_4 : decode cX9_needFamily 4 = .ok (.iload_n 0, 1) := by decide +kernel
theorem dX9_needFamily_5 : decode cX9_needFamily 5 = .ok (.iconst 3, 1) := by decide +kernel
theorem dX9_needFamily_6 : decode cX9_needFamily 6 = .ok (.if_icmp .lt 14, 3) := by decide +kernel
theorem dX9_needFamily_9 : decode cX9_needFamily 9 = .ok (.new 323, 3) := by decide +kernel
theorem dX9_needFamily_12 : decode cX9_needFamily 12 = .ok (.dup, 1) := by decide +kernel
theorem dX9_needFamily_13 : decode cX9_needFamily 13 = .ok (.ldc_w 325, 3) := by decide +kernel
theorem dX9_needFamily_16 : decode cX9_needFamily 16 = .ok (.invokespecial 327, 3) := by decide +kernel
theorem dX9_needFamily_19 : decode cX9_needFamily 19 = .ok (.athrow, 1) := by decide +kernel
theorem dX9_needFamily_20 : decode cX9_needFamily 20 = .ok (.return_, 1) := by decide +kernel
theorem dX9_needStatistic_0 : decode cX9_needStatistic 0 = .ok (.iload_n 0, 1) := by decide +kernel
theorem dX9_needStatistic_1 : decode cX9_needStatistic 1 = .ok (.ifCond .lt 8, 3) := by decide +kernel
theorem dX9_needStatistic_4 : decode cX9_needStatistic 4 = .ok (.iload_n 0, 1) := by decide +kernel
theorem dX9_needStatistic_5 : decode cX9_needStatistic 5 = .ok (.iconst 4, 1) := by decide +kernel
theorem dX9_needStatistic_6 : decode cX9_needStatistic 6 = .ok (.if_icmp .lt 14, 3) := by decide +kernel
theorem dX9_needStatistic_9 : decode cX9_needStatistic 9 = .ok (.new 48, 3) := by decide +kernel
theorem dX9_needStatistic_12 : decode cX9_needStatistic 12 = .ok (.dup, 1) := by decide +kernel
theorem dX9_needStatistic_13 : decode cX9_needStatistic 13 = .ok (.ldc_w 328, 3) := by decide +kernel
theorem dX9_needStatistic_16 : decode cX9_needStatistic 16 = .ok (.invokespecial 52, 3) := by decide +kernel
theorem dX9_needStatistic_19 : decode cX9_needStatistic 19 = .ok (.athrow, 1) := by decide +kernel
theorem dX9_needStatistic_20 : decode cX9_needStatistic 20 = .ok (.return_, 1) := by decide +kernel
theorem dX9_needRank_0 : decode cX9_needRank 0 = .ok (.iload_n 1, 1) := by decide +kernel
theorem dX9_needRank_1 : decode cX9_needRank 1 = .ok (.invokestatic 106, 3) := by decide +kernel
theorem dX9_needRank_4 : decode cX9_needRank 4 = .ok (.iload_n 2, 1) := by decide +kernel
theorem dX9_needRank_5 : decode cX9_needRank 5 = .ok (.ifCond .lt 15, 3) := by decide +kernel
theorem dX9_needRank_8 : decode cX9_needRank 8 = .ok (.iload_n 2, 1) := by decide +kernel
theorem dX9_needRank_9 : decode cX9_needRank 9 = .ok (.aload_n 0, 1) := by decide +kernel
theorem dX9_needRank_10 : decode cX9_needRank 10 = .ok (.getfield 44, 3) := by decide +kernel
theorem dX9_needRank_13 : decode cX9_needRank 13 = .ok (.iload_n 1, 1) := by decide +kernel
theorem dX9_needRank_14 : decode cX9_needRank 14 = .ok (.invokevirtual 178, 3) := by decide +kernel
theorem dX9_needRank_17 : decode cX9_needRank 17 = .ok (.if_icmp .lt 14, 3) := by decide +kernel
theorem dX9_needRank_20 : decode cX9_needRank 20 = .ok (.new 323, 3) := by decide +kernel
theorem dX9_needRank_23 : decode cX9_needRank 23 = .ok (.dup, 1) := by decide +kernel
theorem dX9_needRank_24 : decode cX9_needRank 24 = .ok (.ldc_w 330, 3) := by decide +kernel
theorem dX9_needRank_27 : decode cX9_needRank 27 = .ok (.invokespecial 327, 3) := by decide +kernel
theorem dX9_needRank_30 : decode cX9_needRank 30 = .ok (.athrow, 1) := by decide +kernel
theorem dX9_needRank_31 : decode cX9_needRank 31 = .ok (.return_, 1) := by decide +kernel
theorem dX9_chartAt_0 : decode cX9_chartAt 0 = .ok (.iload_n 1, 1) := by decide +kernel
theorem dX9_chartAt_1 : decode cX9_chartAt 1 = .ok (.ifCond .lt 29, 3) := by decide +kernel
theorem dX9_chartAt_4 : decode cX9_chartAt 4 = .ok (.iload_n 1, 1) := by decide +kernel
theorem dX9_chartAt_5 : decode cX9_chartAt 5 = .ok (.aload_n 0, 1) := by decide +kernel
theorem dX9_chartAt_6 : decode cX9_chartAt 6 = .ok (.getfield 63, 3) := by decide +kernel
theorem dX9_chartAt_9 : decode cX9_chartAt 9 = .ok (.if_icmp .ge 21, 3) := by decide +kernel
theorem dX9_chartAt_12 : decode cX9_chartAt 12 = .ok (.iload_n 1, 1) := by decide +kernel
theorem dX9_chartAt_13 : decode cX9_chartAt 13 = .ok (.aload_n 0, 1) := by decide +kernel
theorem dX9_chartAt_14 : decode cX9_chartAt 14 = .ok (.getfield 24, 3) := by decide +kernel
theorem dX9_chartAt_17 : decode cX9_chartAt 17 = .ok (.arraylength, 1) := by decide +kernel
theorem dX9_chartAt_18 : decode cX9_chartAt 18 = .ok (.if_icmp .ge 12, 3) := by decide +kernel
theorem dX9_chartAt_21 : decode cX9_chartAt 21 = .ok (.aload_n 0, 1) := by decide +kernel
theorem dX9_chartAt_22 : decode cX9_chartAt 22 = .ok (.getfield 24, 3) := by decide +kernel
theorem dX9_chartAt_25 : decode cX9_chartAt 25 = .ok (.iload_n 1, 1) := by decide +kernel
theorem dX9_chartAt_26 : decode cX9_chartAt 26 = .ok (.aaload, 1) := by decide +kernel
theorem dX9_chartAt_27 : decode cX9_chartAt 27 = .ok (.goto 4, 3) := by decide +kernel
theorem dX9_chartAt_30 : decode cX9_chartAt 30 = .ok (.aconst_null, 1) := by decide +kernel
theorem dX9_chartAt_31 : decode cX9_chartAt 31 = .ok (.astore_n 2, 1) := by decide +kernel
theorem dX9_chartAt_32 : decode cX9_chartAt 32 = .ok (.aload_n 2, 1) := by decide +kernel
theorem dX9_chartAt_33 : decode cX9_chartAt 33 = .ok (.ifnonnull 14, 3) := by decide +kernel
theorem dX9_chartAt_36 : decode cX9_chartAt 36 = .ok (.new 323, 3) := by decide +kernel
theorem dX9_chartAt_39 : decode cX9_chartAt 39 = .ok (.dup, 1) := by decide +kernel
theorem dX9_chartAt_40 : decode cX9_chartAt 40 = .ok (.ldc_w 332, 3) := by decide +kernel
theorem dX9_chartAt_43 : decode cX9_chartAt 43 = .ok (.invokespecial 327, 3) := by decide +kernel
theorem dX9_chartAt_46 : decode cX9_chartAt 46 = .ok (.athrow, 1) := by decide +kernel
theorem dX9_chartAt_47 : decode cX9_chartAt 47 = .ok (.aload_n 2, 1) := by decide +kernel
theorem dX9_chartAt_48 : decode cX9_chartAt 48 = .ok (.areturn, 1) := by decide +kernel
theorem dX9_walkerAt_0 : decode cX9_walkerAt 0 = .ok (.iload_n 1, 1) := by decide +kernel
theorem dX9_walkerAt_1 : decode cX9_walkerAt 1 = .ok (.ifCond .lt 29, 3) := by decide +kernel
theorem dX9_walkerAt_4 : decode cX9_walkerAt 4 = .ok (.iload_n 1, 1) := by decide +kernel
theorem dX9_walkerAt_5 : decode cX9_walkerAt 5 = .ok (.aload_n 0, 1) := by decide +kernel
theorem dX9_walkerAt_6 : decode cX9_walkerAt 6 = .ok (.getfield 55, 3) := by decide +kernel
theorem dX9_walkerAt_9 : decode cX9_walkerAt 9 = .ok (.if_icmp .ge 21, 3) := by decide +kernel
theorem dX9_walkerAt_12 : decode cX9_walkerAt 12 = .ok (.iload_n 1, 1) := by decide +kernel
theorem dX9_walkerAt_13 : decode cX9_walkerAt 13 = .ok (.aload_n 0, 1) := by decide +kernel
theorem dX9_walkerAt_14 : decode cX9_walkerAt 14 = .ok (.getfield 30, 3) := by decide +kernel
theorem dX9_walkerAt_17 : decode cX9_walkerAt 17 = .ok (.arraylength, 1) := by decide +kernel
theorem dX9_walkerAt_18 : decode cX9_walkerAt 18 = .ok (.if_icmp .ge 12, 3) := by decide +kernel
theorem dX9_walkerAt_21 : decode cX9_walkerAt 21 = .ok (.aload_n 0, 1) := by decide +kernel
theorem dX9_walkerAt_22 : decode cX9_walkerAt 22 = .ok (.getfield 30, 3) := by decide +kernel
theorem dX9_walkerAt_25 : decode cX9_walkerAt 25 = .ok (.iload_n 1, 1) := by decide +kernel
theorem dX9_walkerAt_26 : decode cX9_walkerAt 26 = .ok (.aaload, 1) := by decide +kernel
theorem dX9_walkerAt_27 : decode cX9_walkerAt 27 = .ok (.goto 4, 3) := by decide +kernel
theorem dX9_walkerAt_30 : decode cX9_walkerAt 30 = .ok (.aconst_null, 1) := by decide +kernel
theorem dX9_walkerAt_31 : decode cX9_walkerAt 31 = .ok (.astore_n 2, 1) := by decide +kernel
theorem dX9_walkerAt_32 : decode cX9_walkerAt 32 = .ok (.aload_n 2, 1) := by decide +kernel
theorem dX9_walkerAt_33 : decode cX9_walkerAt 33 = .ok (.ifnonnull 14, 3) := by decide +kernel
theorem dX9_walkerAt_36 : decode cX9_walkerAt 36 = .ok (.new 323, 3) := by decide +kernel
theorem dX9_walkerAt_39 : decode cX9_walkerAt 39 = .ok (.dup, 1) := by decide +kernel
theorem dX9_walkerAt_40 : decode cX9_walkerAt 40 = .ok (.ldc_w 334, 3) := by decide +kernel
theorem dX9_walkerAt_43 : decode cX9_walkerAt 43 = .ok (.invokespecial 327, 3) := by decide +kernel
theorem dX9_walkerAt_46 : decode cX9_walkerAt 46 = .ok (.athrow, 1) := by decide +kernel
theorem dX9_walkerAt_47 : decode cX9_walkerAt 47 = .ok (.aload_n 2, 1) := by decide +kernel
theorem dX9_walkerAt_48 : decode cX9_walkerAt 48 = .ok (.areturn, 1) := by decide +kernel
theorem dX9_claimAt_0 : decode cX9_claimAt 0 = .ok (.iload_n 1, 1) := by decide +kernel
theorem dX9_claimAt_1 : decode cX9_claimAt 1 = .ok (.ifCond .lt 29, 3) := by decide +kernel
theorem dX9_claimAt_4 : decode cX9_claimAt 4 = .ok (.iload_n 1, 1) := by decide +kernel
theorem dX9_claimAt_5 : decode cX9_claimAt 5 = .ok (.aload_n 0, 1) := by decide +kernel
theorem dX9_claimAt_6 : decode cX9_claimAt 6 = .ok (.getfield 123, 3) := by decide +kernel
theorem dX9_claimAt_9 : decode cX9_claimAt 9 = .ok (.if_icmp .ge 21, 3) := by decide +kernel
theorem dX9_claimAt_12 : decode cX9_claimAt 12 = .ok (.iload_n 1, 1) := by decide +kernel
theorem dX9_claimAt_13 : decode cX9_claimAt 13 = .ok (.aload_n 0, 1) := by decide +kernel
theorem dX9_claimAt_14 : decode cX9_claimAt 14 = .ok (.getfield 36, 3) := by decide +kernel
theorem dX9_claimAt_17 : decode cX9_claimAt 17 = .ok (.arraylength, 1) := by decide +kernel
theorem dX9_claimAt_18 : decode cX9_claimAt 18 = .ok (.if_icmp .ge 12, 3) := by decide +kernel
theorem dX9_claimAt_21 : decode cX9_claimAt 21 = .ok (.aload_n 0, 1) := by decide +kernel
theorem dX9_claimAt_22 : decode cX9_claimAt 22 = .ok (.getfield 36, 3) := by decide +kernel
theorem dX9_claimAt_25 : decode cX9_claimAt 25 = .ok (.iload_n 1, 1) := by decide +kernel
theorem dX9_claimAt_26 : decode cX9_claimAt 26 = .ok (.aaload, 1) := by decide +kernel
theorem dX9_claimAt_27 : decode cX9_claimAt 27 = .ok (.goto 4, 3) := by decide +kernel
theorem dX9_claimAt_30 : decode cX9_claimAt 30 = .ok (.aconst_null, 1) := by decide +kernel
theorem dX9_claimAt_31 : decode cX9_claimAt 31 = .ok (.astore_n 2, 1) := by decide +kernel
theorem dX9_claimAt_32 : decode cX9_claimAt 32 = .ok (.aload_n 2, 1) := by decide +kernel
theorem dX9_claimAt_33 : decode cX9_claimAt 33 = .ok (.ifnonnull 14, 3) := by decide +kernel
theorem dX9_claimAt_36 : decode cX9_claimAt 36 = .ok (.new 323, 3) := by decide +kernel
theorem dX9_claimAt_39 : decode cX9_claimAt 39 = .ok (.dup, 1) := by decide +kernel
theorem dX9_claimAt_40 : decode cX9_claimAt 40 = .ok (.ldc_w 336, 3) := by decide +kernel
theorem dX9_claimAt_43 : decode cX9_claimAt 43 = .ok (.invokespecial 327, 3) := by decide +kernel
theorem dX9_claimAt_46 : decode cX9_claimAt 46 = .ok (.athrow, 1) := by decide +kernel
theorem dX9_claimAt_47 : decode cX9_claimAt 47 = .ok (.aload_n 2, 1) := by decide +kernel
theorem dX9_claimAt_48 : decode cX9_claimAt 48 = .ok (.areturn, 1) := by decide +kernel
theorem dX9_signOf_0 : decode cX9_signOf 0 = .ok (.iload_n 0, 1) := by decide +kernel
theorem dX9_signOf_1 : decode cX9_signOf 1 = .ok (.iconst 1, 1) := by decide +kernel
theorem dX9_signOf_2 : decode cX9_signOf 2 = .ok (.iand, 1) := by decide +kernel
theorem dX9_signOf_3 : decode cX9_signOf 3 = .ok (.ifCond .ne 7, 3) := by decide +kernel
theorem dX9_signOf_6 : decode cX9_signOf 6 = .ok (.iconst 1, 1) := by decide +kernel
theorem dX9_signOf_7 : decode cX9_signOf 7 = .ok (.goto 4, 3) := by decide +kernel
theorem dX9_signOf_10 : decode cX9_signOf 10 = .ok (.iconst (-1), 1) := by decide +kernel
theorem dX9_signOf_11 : decode cX9_signOf 11 = .ok (.ireturn, 1) := by decide +kernel
theorem dX9_patternLength_0 : decode cX9_patternLength 0 = .ok (.iconst 2, 1) := by decide +kernel
theorem dX9_patternLength_1 : decode cX9_patternLength 1 = .ok (.istore_n 1, 1) := by decide +kernel
theorem dX9_patternLength_2 : decode cX9_patternLength 2 = .ok (.iload_n 1, 1) := by decide +kernel
theorem dX9_patternLength_3 : decode cX9_patternLength 3 = .ok (.iconst 4, 1) := by decide +kernel
theorem dX9_patternLength_4 : decode cX9_patternLength 4 = .ok (.if_icmp .gt 19, 3) := by decide +kernel
theorem dX9_patternLength_7 : decode cX9_patternLength 7 = .ok (.iload_n 0, 1) := by decide +kernel
theorem dX9_patternLength_8 : decode cX9_patternLength 8 = .ok (.iload_n 1, 1) := by decide +kernel
theorem dX9_patternLength_9 : decode cX9_patternLength 9 = .ok (.invokestatic 338, 3) := by decide +kernel
theorem dX9_patternLength_12 : decode cX9_patternLength 12 = .ok (.ifCond .eq 5, 3) := by decide +kernel
theorem dX9_patternLength_15 : decode cX9_patternLength 15 = .ok (.iload_n 1, 1) := by decide +kernel
theorem dX9_patternLength_16 : decode cX9_patternLength 16 = .ok (.ireturn, 1) := by decide +kernel
theorem dX9_patternLength_17 : decode cX9_patternLength 17 = .ok (.iinc 1 1, 3) := by decide +kernel
theorem dX9_patternLength_20 : decode cX9_patternLength 20 = .ok (.goto (-18), 3) := by decide +kernel
theorem dX9_patternLength_23 : decode cX9_patternLength 23 = .ok (.iconst (-1), 1) := by decide +kernel
theorem dX9_patternLength_24 : decode cX9_patternLength 24 = .ok (.ireturn, 1) := by decide +kernel
theorem dX9_tryClaim_0 : decode cX9_tryClaim 0 = .ok (.aload_n 0, 1) := by decide +kernel
theorem dX9_tryClaim_1 : decode cX9_tryClaim 1 = .ok (.aload_n 2, 1) := by decide +kernel
theorem dX9_tryClaim_2 : decode cX9_tryClaim 2 = .ok (.aload_n 1, 1) := by decide +kernel
theorem dX9_tryClaim_3 : decode cX9_tryClaim 3 = .ok (.getfield 256, 3) := by decide +kernel
theorem dX9_tryClaim_6 : decode cX9_tryClaim 6 = .ok (.aload_n 1, 1) := by decide +kernel
theorem dX9_tryClaim_7 : decode cX9_tryClaim 7 = .ok (.getfield 259, 3) := by decide +kernel
theorem dX9_tryClaim_10 : decode cX9_tryClaim 10 = .ok (.invokevirtual 234, 3) := by decide +kernel
theorem dX9_tryClaim_13 : decode cX9_tryClaim 13 = .ok (.iconst (-1), 1) := by decide +kernel
theorem dX9_tryClaim_14 : decode cX9_tryClaim 14 = .ok (.if_icmp .ne 7, 3) := by decide +kernel
theorem dX9_tryClaim_17 : decode cX9_tryClaim 17 = .ok (.iconst 1, 1) := by decide +kernel
theorem dX9_tryClaim_18 : decode cX9_tryClaim 18 = .ok (.goto 4, 3) := by decide +kernel
theorem dX9_tryClaim_21 : decode cX9_tryClaim 21 = .ok (.iconst 0, 1) := by decide +kernel
theorem dX9_tryClaim_22 : decode cX9_tryClaim 22 = .ok (.istore_n 3, 1) := by decide +kernel
theorem dX9_tryClaim_23 : decode cX9_tryClaim 23 = .ok (.aload_n 1, 1) := by decide +kernel
theorem dX9_tryClaim_24 : decode cX9_tryClaim 24 = .ok (.aload_n 0, 1) := by decide +kernel
theorem dX9_tryClaim_25 : decode cX9_tryClaim 25 = .ok (.getfield 44, 3) := by decide +kernel
theorem dX9_tryClaim_28 : decode cX9_tryClaim 28 = .ok (.getfield 200, 3) := by decide +kernel
theorem dX9_tryClaim_31 : decode cX9_tryClaim 31 = .ok (.iload_n 3, 1) := by decide +kernel
theorem dX9_tryClaim_32 : decode cX9_tryClaim 32 = .ok (.invokevirtual 341, 3) := by decide +kernel
theorem dX9_tryClaim_35 : decode cX9_tryClaim 35 = .ok (.aload_n 0, 1) := by decide +kernel
theorem dX9_tryClaim_36 : decode cX9_tryClaim 36 = .ok (.dup, 1) := by decide +kernel
theorem dX9_tryClaim_37 : decode cX9_tryClaim 37 = .ok (.getfield 274, 3) := by decide +kernel
theorem dX9_tryClaim_40 : decode cX9_tryClaim 40 = .ok (.iconst 1, 1) := by decide +kernel
theorem dX9_tryClaim_41 : decode cX9_tryClaim 41 = .ok (.iadd, 1) := by decide +kernel
theorem dX9_tryClaim_42 : decode cX9_tryClaim 42 = .ok (.putfield 274, 3) := by decide +kernel
theorem dX9_tryClaim_45 : decode cX9_tryClaim 45 = .ok (.iload_n 3, 1) := by decide +kernel
theorem dX9_tryClaim_46 : decode cX9_tryClaim 46 = .ok (.ireturn, 1) := by decide +kernel
theorem dX9_firstAgainst_0 : decode cX9_firstAgainst 0 = .ok (.iconst 0, 1) := by decide +kernel
theorem dX9_firstAgainst_1 : decode cX9_firstAgainst 1 = .ok (.istore 4, 2) := by decide +kernel
theorem dX9_firstAgainst_3 : decode cX9_firstAgainst 3 = .ok (.iload 4, 2) := by decide +kernel
theorem dX9_firstAgainst_5 : decode cX9_firstAgainst 5 = .ok (.aload_n 0, 1) := by decide +kernel
theorem dX9_firstAgainst_6 : decode cX9_firstAgainst 6 = .ok (.getfield 44, 3) := by decide +kernel
theorem dX9_firstAgainst_9 : decode cX9_firstAgainst 9 = .ok (.aload_n 1, 1) := by decide +kernel
theorem dX9_firstAgainst_10 : decode cX9_firstAgainst 10 = .ok (.getfield 141, 3) := by decide +kernel
theorem dX9_firstAgainst_13 : decode cX9_firstAgainst 13 = .ok (.invokevirtual 178, 3) := by decide +kernel
theorem dX9_firstAgainst_16 : decode cX9_firstAgainst 16 = .ok (.if_icmp .ge 55, 3) := by decide +kernel
theorem dX9_firstAgainst_19 : decode cX9_firstAgainst 19 = .ok (.aload_n 0, 1) := by decide +kernel
theorem dX9_firstAgainst_20 : decode cX9_firstAgainst 20 = .ok (.getfield 44, 3) := by decide +kernel
theorem dX9_firstAgainst_23 : decode cX9_firstAgainst 23 = .ok (.aload_n 1, 1) := by decide +kernel
theorem dX9_firstAgainst_24 : decode cX9_firstAgainst 24 = .ok (.iload 4, 2) := by decide +kernel
theorem dX9_firstAgainst_26 : decode cX9_firstAgainst 26 = .ok (.invokevirtual 158, 3) := by decide +kernel
theorem dX9_firstAgainst_29 : decode cX9_firstAgainst 29 = .ok (.istore 5, 2) := by decide +kernel
theorem dX9_firstAgainst_31 : decode cX9_firstAgainst 31 = .ok (.aload_n 0, 1) := by decide +kernel
theorem dX9_firstAgainst_32 : decode cX9_firstAgainst 32 = .ok (.getfield 44, 3) := by decide +kernel
theorem dX9_firstAgainst_35 : decode cX9_firstAgainst 35 = .ok (.aload_n 1, 1) := by decide +kernel
theorem dX9_firstAgainst_36 : decode cX9_firstAgainst 36 = .ok (.getfield 141, 3) := by decide +kernel
theorem dX9_firstAgainst_39 : decode cX9_firstAgainst 39 = .ok (.iload_n 2, 1) := by decide +kernel
theorem dX9_firstAgainst_40 : decode cX9_firstAgainst 40 = .ok (.iload 4, 2) := by decide +kernel
theorem dX9_firstAgainst_42 : decode cX9_firstAgainst 42 = .ok (.invokevirtual 185, 3) := by decide +kernel
theorem dX9_firstAgainst_45 : decode cX9_firstAgainst 45 = .ok (.aload_n 0, 1) := by decide +kernel
theorem dX9_firstAgainst_46 : decode cX9_firstAgainst 46 = .ok (.getfield 44, 3) := by decide +kernel
theorem dX9_firstAgainst_49 : decode cX9_firstAgainst 49 = .ok (.aload_n 1, 1) := by decide +kernel
theorem dX9_firstAgainst_50 : decode cX9_firstAgainst 50 = .ok (.getfield 98, 3) := by decide +kernel
theorem dX9_firstAgainst_53 : decode cX9_firstAgainst 53 = .ok (.iload_n 3, 1) := by decide +kernel
theorem dX9_firstAgainst_54 : decode cX9_firstAgainst 54 = .ok (.iload 5, 2) := by decide +kernel
theorem dX9_firstAgainst_56 : decode cX9_firstAgainst 56 = .ok (.invokevirtual 185, 3) := by decide +kernel
theorem dX9_firstAgainst_59 : decode cX9_firstAgainst 59 = .ok (.if_icmp .eq 6, 3) := by decide +kernel
theorem dX9_firstAgainst_62 : decode cX9_firstAgainst 62 = .ok (.iload 4, 2) := by decide +kernel
theorem dX9_firstAgainst_64 : decode cX9_firstAgainst 64 = .ok (.ireturn, 1) := by decide +kernel
theorem dX9_firstAgainst_65 : decode cX9_firstAgainst 65 = .ok (.iinc 4 1, 3) := by decide +kernel
theorem dX9_firstAgainst_68 : decode cX9_firstAgainst 68 = .ok (.goto (-65), 3) := by decide +kernel
theorem dX9_firstAgainst_71 : decode cX9_firstAgainst 71 = .ok (.iconst (-1), 1) := by decide +kernel
theorem dX9_firstAgainst_72 : decode cX9_firstAgainst 72 = .ok (.ireturn, 1) := by decide +kernel
theorem dX9_isPairedOff_0 : decode cX9_isPairedOff 0 = .ok (.aload_n 0, 1) := by decide +kernel
theorem dX9_isPairedOff_1 : decode cX9_isPairedOff 1 = .ok (.getfield 44, 3) := by decide +kernel
theorem dX9_isPairedOff_4 : decode cX9_isPairedOff 4 = .ok (.aload_n 1, 1) := by decide +kernel
theorem dX9_isPairedOff_5 : decode cX9_isPairedOff 5 = .ok (.iload_n 3, 1) := by decide +kernel
theorem dX9_isPairedOff_6 : decode cX9_isPairedOff 6 = .ok (.invokevirtual 158, 3) := by decide +kernel
theorem dX9_isPairedOff_9 : decode cX9_isPairedOff 9 = .ok (.istore 4, 2) := by decide +kernel
theorem dX9_isPairedOff_11 : decode cX9_isPairedOff 11 = .ok (.iload 4, 2) := by decide +kernel
theorem dX9_isPairedOff_13 : decode cX9_isPairedOff 13 = .ok (.iload_n 3, 1) := by decide +kernel
theorem dX9_isPairedOff_14 : decode cX9_isPairedOff 14 = .ok (.if_icmp .ne 5, 3) := by decide +kernel
theorem dX9_isPairedOff_17 : decode cX9_isPairedOff 17 = .ok (.iconst 1, 1) := by decide +kernel
theorem dX9_isPairedOff_18 : decode cX9_isPairedOff 18 = .ok (.ireturn, 1) := by decide +kernel
theorem dX9_isPairedOff_19 : decode cX9_isPairedOff 19 = .ok (.aload_n 1, 1) := by decide +kernel
theorem dX9_isPairedOff_20 : decode cX9_isPairedOff 20 = .ok (.getfield 141, 3) := by decide +kernel
theorem dX9_isPairedOff_23 : decode cX9_isPairedOff 23 = .ok (.istore 5, 2) := by decide +kernel
theorem dX9_isPairedOff_25 : decode cX9_isPairedOff 25 = .ok (.aload_n 0, 1) := by decide +kernel
theorem dX9_isPairedOff_26 : decode cX9_isPairedOff 26 = .ok (.getfield 44, 3) := by decide +kernel
theorem dX9_isPairedOff_29 : decode cX9_isPairedOff 29 = .ok (.aload_n 1, 1) := by decide +kernel
theorem dX9_isPairedOff_30 : decode cX9_isPairedOff 30 = .ok (.iload 4, 2) := by decide +kernel
theorem dX9_isPairedOff_32 : decode cX9_isPairedOff 32 = .ok (.invokevirtual 158, 3) := by decide +kernel
theorem dX9_isPairedOff_35 : decode cX9_isPairedOff 35 = .ok (.iload_n 3, 1) := by decide +kernel
theorem dX9_isPairedOff_36 : decode cX9_isPairedOff 36 = .ok (.if_icmp .ne 39, 3) := by decide +kernel
theorem dX9_isPairedOff_39 : decode cX9_isPairedOff 39 = .ok (.aload_n 0, 1) := by decide +kernel
theorem dX9_isPairedOff_40 : decode cX9_isPairedOff 40 = .ok (.getfield 44, 3) := by decide +kernel
theorem dX9_isPairedOff_43 : decode cX9_isPairedOff 43 = .ok (.iload 5, 2) := by decide +kernel
theorem dX9_isPairedOff_45 : decode cX9_isPairedOff 45 = .ok (.iload_n 2, 1) := by decide +kernel
theorem dX9_isPairedOff_46 : decode cX9_isPairedOff 46 = .ok (.iload_n 3, 1) := by decide +kernel
theorem dX9_isPairedOff_47 : decode cX9_isPairedOff 47 = .ok (.invokevirtual 185, 3) := by decide +kernel
theorem dX9_isPairedOff_50 : decode cX9_isPairedOff 50 = .ok (.invokestatic 192, 3) := by decide +kernel
theorem dX9_isPairedOff_53 : decode cX9_isPairedOff 53 = .ok (.aload_n 0, 1) := by decide +kernel
theorem dX9_isPairedOff_54 : decode cX9_isPairedOff 54 = .ok (.getfield 44, 3) := by decide +kernel
theorem dX9_isPairedOff_57 : decode cX9_isPairedOff 57 = .ok (.iload 5, 2) := by decide +kernel
theorem dX9_isPairedOff_59 : decode cX9_isPairedOff 59 = .ok (.iload_n 2, 1) := by decide +kernel
theorem dX9_isPairedOff_60 : decode cX9_isPairedOff 60 = .ok (.iload 4, 2) := by decide +kernel
theorem dX9_isPairedOff_62 : decode cX9_isPairedOff 62 = .ok (.invokevirtual 185, 3) := by decide +kernel
theorem dX9_isPairedOff_65 : decode cX9_isPairedOff 65 = .ok (.invokestatic 192, 3) := by decide +kernel
theorem dX9_isPairedOff_68 : decode cX9_isPairedOff 68 = .ok (.if_icmp .eq 7, 3) := by decide +kernel
theorem dX9_isPairedOff_71 : decode cX9_isPairedOff 71 = .ok (.iconst 1, 1) := by decide +kernel
theorem dX9_isPairedOff_72 : decode cX9_isPairedOff 72 = .ok (.goto 4, 3) := by decide +kernel
theorem dX9_isPairedOff_75 : decode cX9_isPairedOff 75 = .ok (.iconst 0, 1) := by decide +kernel
theorem dX9_isPairedOff_76 : decode cX9_isPairedOff 76 = .ok (.ireturn, 1) := by decide +kernel
theorem dX9_refutedClaims_0 : decode cX9_refutedClaims 0 = .ok (.iconst 0, 1) := by decide +kernel
theorem dX9_refutedClaims_1 : decode cX9_refutedClaims 1 = .ok (.istore_n 1, 1) := by decide +kernel
theorem dX9_refutedClaims_2 : decode cX9_refutedClaims 2 = .ok (.iconst 0, 1) := by decide +kernel
theorem dX9_refutedClaims_3 : decode cX9_refutedClaims 3 = .ok (.istore_n 2, 1) := by decide +kernel
theorem dX9_refutedClaims_4 : decode cX9_refutedClaims 4 = .ok (.iload_n 2, 1) := by decide +kernel
theorem dX9_refutedClaims_5 : decode cX9_refutedClaims 5 = .ok (.aload_n 0, 1) := by decide +kernel
theorem dX9_refutedClaims_6 : decode cX9_refutedClaims 6 = .ok (.getfield 123, 3) := by decide +kernel
theorem dX9_refutedClaims_9 : decode cX9_refutedClaims 9 = .ok (.if_icmp .ge 23, 3) := by decide +kernel
theorem dX9_refutedClaims_12 : decode cX9_refutedClaims 12 = .ok (.aload_n 0, 1) := by decide +kernel
theorem dX9_refutedClaims_13 : decode cX9_refutedClaims 13 = .ok (.iload_n 2, 1) := by decide +kernel
theorem dX9_refutedClaims_14 : decode cX9_refutedClaims 14 = .ok (.invokevirtual 171, 3) := by decide +kernel
theorem dX9_refutedClaims_17 : decode cX9_refutedClaims 17 = .ok (.getfield 265, 3) := by decide +kernel
theorem dX9_refutedClaims_20 : decode cX9_refutedClaims 20 = .ok (.ifCond .eq 6, 3) := by decide +kernel
theorem dX9_refutedClaims_23 : decode cX9_refutedClaims 23 = .ok (.iinc 1 1, 3) := by decide +kernel
theorem dX9_refutedClaims_26 : decode cX9_refutedClaims 26 = .ok (.iinc 2 1, 3) := by decide +kernel
theorem dX9_refutedClaims_29 : decode cX9_refutedClaims 29 = .ok (.goto (-25), 3) := by decide +kernel
theorem dX9_refutedClaims_32 : decode cX9_refutedClaims 32 = .ok (.iload_n 1, 1) := by decide +kernel
theorem dX9_refutedClaims_33 : decode cX9_refutedClaims 33 = .ok (.ireturn, 1) := by decide +kernel
theorem dX11_init_0 : decode cX11_init 0 = .ok (.aload_n 0, 1) := by decide +kernel
theorem dX11_init_1 : decode cX11_init 1 = .ok (.invokespecial 1, 3) := by decide +kernel
theorem dX11_init_4 : decode cX11_init 4 = .ok (.aload_n 0, 1) := by decide +kernel
theorem dX11_init_5 : decode cX11_init 5 = .ok (.iload_n 1, 1) := by decide +kernel
theorem dX11_init_6 : decode cX11_init 6 = .ok (.putfield 7, 3) := by decide +kernel
theorem dX11_init_9 : decode cX11_init 9 = .ok (.aload_n 0, 1) := by decide +kernel
theorem dX11_init_10 : decode cX11_init 10 = .ok (.iload_n 2, 1) := by decide +kernel
theorem dX11_init_11 : decode cX11_init 11 = .ok (.putfield 13, 3) := by decide +kernel
theorem dX11_init_14 : decode cX11_init 14 = .ok (.aload_n 0, 1) := by decide +kernel
theorem dX11_init_15 : decode cX11_init 15 = .ok (.iload_n 1, 1) := by decide +kernel
theorem dX11_init_16 : decode cX11_init 16 = .ok (.putfield 16, 3) := by decide +kernel
theorem dX11_init_19 : decode cX11_init 19 = .ok (.aload_n 0, 1) := by decide +kernel
theorem dX11_init_20 : decode cX11_init 20 = .ok (.iload_n 2, 1) := by decide +kernel
theorem dX11_init_21 : decode cX11_init 21 = .ok (.putfield 19, 3) := by decide +kernel
theorem dX11_init_24 : decode cX11_init 24 = .ok (.return_, 1) := by decide +kernel
theorem dX12_isIn_0 : decode cX12_isIn 0 = .ok (.iload_n 0, 1) := by decide +kernel
theorem dX12_isIn_1 : decode cX12_isIn 1 = .ok (.iload_n 1, 1) := by decide +kernel
theorem dX12_isIn_2 : decode cX12_isIn 2 = .ok (.if_icmp .lt 12, 3) := by decide +kernel
theorem dX12_isIn_5 : decode cX12_isIn 5 = .ok (.iload_n 0, 1) := by decide +kernel
theorem dX12_isIn_6 : decode cX12_isIn 6 = .ok (.iload_n 2, 1) := by decide +kernel
theorem dX12_isIn_7 : decode cX12_isIn 7 = .ok (.if_icmp .gt 7, 3) := by decide +kernel
theorem dX12_isIn_10 : decode cX12_isIn 10 = .ok (.iconst 1, 1) := by decide +kernel
theorem dX12_isIn_11 : decode cX12_isIn 11 = .ok (.goto 4, 3) := by decide +kernel
theorem dX12_isIn_14 : decode cX12_isIn 14 = .ok (.iconst 0, 1) := by decide +kernel
theorem dX12_isIn_15 : decode cX12_isIn 15 = .ok (.ireturn, 1) := by decide +kernel
theorem dX12_init_0 : decode cX12_init 0 = .ok (.aload_n 0, 1) := by decide +kernel
theorem dX12_init_1 : decode cX12_init 1 = .ok (.invokespecial 1, 3) := by decide +kernel
theorem dX12_init_4 : decode cX12_init 4 = .ok (.aload_n 0, 1) := by decide +kernel
theorem dX12_init_5 : decode cX12_init 5 = .ok (.iconst 3, 1) := by decide +kernel
theorem dX12_init_6 : decode cX12_init 6 = .ok (.anewarray 9, 3) := by decide +kernel
theorem dX12_init_9 : decode cX12_init 9 = .ok (.putfield 11, 3) := by decide +kernel
theorem dX12_init_12 : decode cX12_init 12 = .ok (.aload_n 0, 1) := by decide +kernel
theorem dX12_init_13 : decode cX12_init 13 = .ok (.new 15, 3) := by decide +kernel
theorem dX12_init_16 : decode cX12_init 16 = .ok (.dup, 1) := by decide +kernel
theorem dX12_init_17 : decode cX12_init 17 = .ok (.invokespecial 17, 3) := by decide +kernel
theorem dX12_init_20 : decode cX12_init 20 = .ok (.putfield 18, 3) := by decide +kernel
theorem dX12_init_23 : decode cX12_init 23 = .ok (.aload_n 0, 1) := by decide +kernel
theorem dX12_init_24 : decode cX12_init 24 = .ok (.new 15, 3) := by decide +kernel
theorem dX12_init_27 : decode cX12_init 27 = .ok (.dup, 1) := by decide +kernel
theorem dX12_init_28 : decode cX12_init 28 = .ok (.invokespecial 17, 3) := by decide +kernel
theorem dX12_init_31 : decode cX12_init 31 = .ok (.putfield 22, 3) := by decide +kernel
theorem dX12_init_34 : decode cX12_init 34 = .ok (.aload_n 0, 1) := by decide +kernel
theorem dX12_init_35 : decode cX12_init 35 = .ok (.new 15, 3) := by decide +kernel
theorem dX12_init_38 : decode cX12_init 38 = .ok (.dup, 1) := by decide +kernel
theorem dX12_init_39 : decode cX12_init 39 = .ok (.invokespecial 17, 3) := by decide +kernel
theorem dX12_init_42 : decode cX12_init 42 = .ok (.putfield 25, 3) := by decide +kernel
theorem dX12_init_45 : decode cX12_init 45 = .ok (.aload_n 0, 1) := by decide +kernel
theorem dX12_init_46 : decode cX12_init 46 = .ok (.bipush 6, 2) := by decide +kernel
theorem dX12_init_48 : decode cX12_init 48 = .ok (.newarray .int, 2) := by decide +kernel
theorem dX12_init_50 : decode cX12_init 50 = .ok (.putfield 28, 3) := by decide +kernel
theorem dX12_init_53 : decode cX12_init 53 = .ok (.aload_n 0, 1) := by decide +kernel
theorem dX12_init_54 : decode cX12_init 54 = .ok (.bipush 6, 2) := by decide +kernel
theorem dX12_init_56 : decode cX12_init 56 = .ok (.newarray .int, 2) := by decide +kernel
theorem dX12_init_58 : decode cX12_init 58 = .ok (.putfield 31, 3) := by decide +kernel
theorem dX12_init_61 : decode cX12_init 61 = .ok (.aload_n 0, 1) := by decide +kernel
theorem dX12_init_62 : decode cX12_init 62 = .ok (.bipush 6, 2) := by decide +kernel
theorem dX12_init_64 : decode cX12_init 64 = .ok (.newarray .int, 2) := by decide +kernel
theorem dX12_init_66 : decode cX12_init 66 = .ok (.putfield 34, 3) := by decide +kernel
theorem dX12_init_69 : decode cX12_init 69 = .ok (.aload_n 0, 1) := by decide +kernel
theorem dX12_init_70 : decode cX12_init 70 = .ok (.iconst 3, 1) := by decide +kernel
theorem dX12_init_71 : decode cX12_init 71 = .ok (.invokevirtual 37, 3) := by decide +kernel
theorem dX12_init_74 : decode cX12_init 74 = .ok (.return_, 1) := by decide +kernel
theorem dX12_thrown_0 : decode cX12_thrown 0 = .ok (.aload_n 0, 1) := by decide +kernel
theorem dX12_thrown_1 : decode cX12_thrown 1 = .ok (.getfield 41, 3) := by decide +kernel
theorem dX12_thrown_4 : decode cX12_thrown 4 = .ok (.ireturn, 1) := by decide +kernel
theorem dX12_refuse_0 : decode cX12_refuse 0 = .ok (.iload_n 1, 1) := by decide +kernel
theorem dX12_refuse_1 : decode cX12_refuse 1 = .ok (.ifCond .eq 15, 3) := by decide +kernel
theorem dX12_refuse_4 : decode cX12_refuse 4 = .ok (.aload_n 0, 1) := by decide +kernel
theorem dX12_refuse_5 : decode cX12_refuse 5 = .ok (.getfield 41, 3) := by decide +kernel
theorem dX12_refuse_8 : decode cX12_refuse 8 = .ok (.ifCond .ne 8, 3) := by decide +kernel
theorem dX12_refuse_11 : decode cX12_refuse 11 = .ok (.aload_n 0, 1) := by decide +kernel
theorem dX12_refuse_12 : decode cX12_refuse 12 = .ok (.iload_n 2, 1) := by decide +kernel
theorem dX12_refuse_13 : decode cX12_refuse 13 = .ok (.putfield 41, 3) := by decide +kernel
theorem dX12_refuse_16 : decode cX12_refuse 16 = .ok (.aload_n 0, 1) := by decide +kernel
theorem dX12_refuse_17 : decode cX12_refuse 17 = .ok (.getfield 41, 3) := by decide +kernel
theorem dX12_refuse_20 : decode cX12_refuse 20 = .ok (.ifCond .le 7, 3) := by decide +kernel
theorem dX12_refuse_23 : decode cX12_refuse 23 = .ok (.iconst 1, 1) := by decide +kernel
theorem dX12_refuse_24 : decode cX12_refuse 24 = .ok (.goto 4, 3) := by decide +kernel
theorem dX12_refuse_27 : decode cX12_refuse 27 = .ok (.iconst 0, 1) := by decide +kernel
theorem dX12_refuse_28 : decode cX12_refuse 28 = .ok (.ireturn, 1) := by decide +kernel
theorem dX12_start_0 : decode cX12_start 0 = .ok (.aload_n 0, 1) := by decide +kernel
theorem dX12_start_1 : decode cX12_start 1 = .ok (.iconst 0, 1) := by decide +kernel
theorem dX12_start_2 : decode cX12_start 2 = .ok (.putfield 41, 3) := by decide +kernel
theorem dX12_start_5 : decode cX12_start 5 = .ok (.aload_n 0, 1) := by decide +kernel
theorem dX12_start_6 : decode cX12_start 6 = .ok (.iload_n 1, 1) := by decide +kernel
theorem dX12_start_7 : decode cX12_start 7 = .ok (.iload_n 2, 1) := by decide +kernel
theorem dX12_start_8 : decode cX12_start 8 = .ok (.invokevirtual 45, 3) := by decide +kernel
theorem dX12_start_11 : decode cX12_start 11 = .ok (.ireturn, 1) := by decide +kernel
theorem dX12_isPath_0 : decode cX12_isPath 0 = .ok (.iconst 0, 1) := by decide +kernel
theorem dX12_isPath_1 : decode cX12_isPath 1 = .ok (.istore_n 2, 1) := by decide +kernel
theorem dX12_isPath_2 : decode cX12_isPath 2 = .ok (.iload_n 1, 1) := by decide +kernel
theorem dX12_isPath_3 : decode cX12_isPath 3 = .ok (.iconst 1, 1) := by decide +kernel
theorem dX12_isPath_4 : decode cX12_isPath 4 = .ok (.isub, 1) := by decide +kernel
theorem dX12_isPath_5 : decode cX12_isPath 5 = .ok (.istore_n 3, 1) := by decide +kernel
theorem dX12_isPath_6 : decode cX12_isPath 6 = .ok (.iload_n 3, 1) := by decide +kernel
theorem dX12_isPath_7 : decode cX12_isPath 7 = .ok (.ifCond .lt 32, 3) := by decide +kernel
theorem dX12_isPath_10 : decode cX12_isPath 10 = .ok (.iload_n 2, 1) := by decide +kernel
theorem dX12_isPath_11 : decode cX12_isPath 11 = .ok (.iload_n 0, 1) := by decide +kernel
theorem dX12_isPath_12 : decode cX12_isPath 12 = .ok (.iload_n 3, 1) := by decide +kernel
theorem dX12_isPath_13 : decode cX12_isPath 13 = .ok (.ishr, 1) := by decide +kernel
theorem dX12_isPath_14 : decode cX12_isPath 14 = .ok (.iconst 1, 1) := by decide +kernel
theorem dX12_isPath_15 : decode cX12_isPath 15 = .ok (.iand, 1) := by decide +kernel
theorem dX12_isPath_16 : decode cX12_isPath 16 = .ok (.iconst 1, 1) := by decide +kernel
theorem dX12_isPath_17 : decode cX12_isPath 17 = .ok (.if_icmp .ne 7, 3) := by decide +kernel
theorem dX12_isPath_20 : decode cX12_isPath 20 = .ok (.iconst 1, 1) := by decide +kernel
theorem dX12_isPath_21 : decode cX12_isPath 21 = .ok (.goto 4, 3) := by decide +kernel
theorem dX12_isPath_24 : decode cX12_isPath 24 = .ok (.iconst (-1), 1) := by decide +kernel
theorem dX12_isPath_25 : decode cX12_isPath 25 = .ok (.iadd, 1) := by decide +kernel
theorem dX12_isPath_26 : decode cX12_isPath 26 = .ok (.istore_n 2, 1) := by decide +kernel
theorem dX12_isPath_27 : decode cX12_isPath 27 = .ok (.iload_n 2, 1) := by decide +kernel
theorem dX12_isPath_28 : decode cX12_isPath 28 = .ok (.ifCond .ge 5, 3) := by decide +kernel
theorem dX12_isPath_31 : decode cX12_isPath 31 = .ok (.iconst 0, 1) := by decide +kernel
theorem dX12_isPath_32 : decode cX12_isPath 32 = .ok (.ireturn, 1) := by decide +kernel
theorem dX12_isPath_33 : decode cX12_isPath 33 = .ok (.iinc 3 (-1), 3) := by decide +kernel
theorem dX12_isPath_36 : decode cX12_isPath 36 = .ok (.goto (-30), 3) := by decide +kernel
theorem dX12_isPath_39 : decode cX12_isPath 39 = .ok (.iload_n 2, 1) := by decide +kernel
theorem dX12_isPath_40 : decode cX12_isPath 40 = .ok (.ifCond .ne 13, 3) := by decide +kernel
theorem dX12_isPath_43 : decode cX12_isPath 43 = .ok (.iload_n 0, 1) := by decide +kernel
theorem dX12_isPath_44 : decode cX12_isPath 44 = .ok (.iload_n 1, 1) := by decide +kernel
theorem dX12_isPath_45 : decode cX12_isPath 45 = .ok (.ishr, 1) := by decide +kernel
theorem dX12_isPath_46 : decode cX12_isPath 46 = .ok (.ifCond .ne 7, 3) := by decide +kernel
theorem dX12_isPath_49 : decode cX12_isPath 49 = .ok (.iconst 1, 1) := by decide +kernel
theorem dX12_isPath_50 : decode cX12_isPath 50 = .ok (.goto 4, 3) := by decide +kernel
theorem dX12_isPath_53 : decode cX12_isPath 53 = .ok (.iconst 0, 1) := by decide +kernel
theorem dX12_isPath_54 : decode cX12_isPath 54 = .ok (.ireturn, 1) := by decide +kernel
theorem dX12_isOrder_0 : decode cX12_isOrder 0 = .ok (.iconst 0, 1) := by decide +kernel
theorem dX12_isOrder_1 : decode cX12_isOrder 1 = .ok (.istore_n 2, 1) := by decide +kernel
theorem dX12_isOrder_2 : decode cX12_isOrder 2 = .ok (.iload_n 0, 1) := by decide +kernel
theorem dX12_isOrder_3 : decode cX12_isOrder 3 = .ok (.istore_n 3, 1) := by decide +kernel
theorem dX12_isOrder_4 : decode cX12_isOrder 4 = .ok (.iconst 0, 1) := by decide +kernel
theorem dX12_isOrder_5 : decode cX12_isOrder 5 = .ok (.istore 4, 2) := by decide +kernel
theorem dX12_isOrder_7 : decode cX12_isOrder 7 = .ok (.iload 4, 2) := by decide +kernel
theorem dX12_isOrder_9 : decode cX12_isOrder 9 = .ok (.iload_n 1, 1) := by decide +kernel
theorem dX12_isOrder_10 : decode cX12_isOrder 10 = .ok (.if_icmp .ge 23, 3) := by decide +kernel
theorem dX12_isOrder_13 : decode cX12_isOrder 13 = .ok (.iload_n 2, 1) := by decide +kernel
theorem dX12_isOrder_14 : decode cX12_isOrder 14 = .ok (.iconst 1, 1) := by decide +kernel
theorem dX12_isOrder_15 : decode cX12_isOrder 15 = .ok (.iload_n 3, 1) := by decide +kernel
theorem dX12_isOrder_16 : decode cX12_isOrder 16 = .ok (.bipush 10, 2) := by decide +kernel
theorem dX12_isOrder_18 : decode cX12_isOrder 18 = .ok (.irem, 1) := by decide +kernel
theorem dX12_isOrder_19 : decode cX12_isOrder 19 = .ok (.ishl, 1) := by decide +kernel
theorem dX12_isOrder_20 : decode cX12_isOrder 20 = .ok (.ior, 1) := by decide +kernel
theorem dX12_isOrder_21 : decode cX12_isOrder 21 = .ok (.istore_n 2, 1) := by decide +kernel
theorem dX12_isOrder_22 : decode cX12_isOrder 22 = .ok (.iload_n 3, 1) := by decide +kernel
theorem dX12_isOrder_23 : decode cX12_isOrder 23 = .ok (.bipush 10, 2) := by decide +kernel
theorem dX12_isOrder_25 : decode cX12_isOrder 25 = .ok (.idiv, 1) := by decide +kernel
theorem dX12_isOrder_26 : decode cX12_isOrder 26 = .ok (.istore_n 3, 1) := by decide +kernel
theorem dX12_isOrder_27 : decode cX12_isOrder 27 = .ok (.iinc 4 1, 3) := by decide +kernel
theorem dX12_isOrder_30 : decode cX12_isOrder 30 = .ok (.goto (-23), 3) := by decide +kernel
theorem dX12_isOrder_33 : decode cX12_isOrder 33 = .ok (.iload_n 3, 1) := by decide +kernel
theorem dX12_isOrder_34 : decode cX12_isOrder 34 = .ok (.ifCond .ne 18, 3) := by decide +kernel
theorem dX12_isOrder_37 : decode cX12_isOrder 37 = .ok (.iload_n 2, 1) := by decide +kernel
theorem dX12_isOrder_38 : decode cX12_isOrder 38 = .ok (.iconst 1, 1) := by decide +kernel
theorem dX12_isOrder_39 : decode cX12_isOrder 39 = .ok (.iload_n 1, 1) := by decide +kernel
theorem dX12_isOrder_40 : decode cX12_isOrder 40 = .ok (.iconst 1, 1) := by decide +kernel
theorem dX12_isOrder_41 : decode cX12_isOrder 41 = .ok (.iadd, 1) := by decide +kernel
theorem dX12_isOrder_42 : decode cX12_isOrder 42 = .ok (.ishl, 1) := by decide +kernel
theorem dX12_isOrder_43 : decode cX12_isOrder 43 = .ok (.iconst 2, 1) := by decide +kernel
theorem dX12_isOrder_44 : decode cX12_isOrder 44 = .ok (.isub, 1) := by decide +kernel
theorem dX12_isOrder_45 : decode cX12_isOrder 45 = .ok (.if_icmp .ne 7, 3) := by decide +kernel
theorem dX12_isOrder_48 : decode cX12_isOrder 48 = .ok (.iconst 1, 1) := by decide +kernel
theorem dX12_isOrder_49 : decode cX12_isOrder 49 = .ok (.goto 4, 3) := by decide +kernel
theorem dX12_isOrder_52 : decode cX12_isOrder 52 = .ok (.iconst 0, 1) := by decide +kernel
theorem dX12_isOrder_53 : decode cX12_isOrder 53 = .ok (.ireturn, 1) := by decide +kernel
theorem dX12_tens_0 : decode cX12_tens 0 = .ok (.iload_n 0, 1) := by decide +kernel
theorem dX12_tens_1 : decode cX12_tens 1 = .ok (.ifCond .ne 7, 3) := by decide +kernel
theorem dX12_tens_4 : decode cX12_tens 4 = .ok (.iconst 1, 1) := by decide +kernel
theorem dX12_tens_5 : decode cX12_tens 5 = .ok (.goto 12, 3) := by decide +kernel
theorem dX12_tens_8 : decode cX12_tens 8 = .ok (.bipush 10, 2) := by decide +kernel
theorem dX12_tens_10 : decode cX12_tens 10 = .ok (.iload_n 0, 1) := by decide +kernel
theorem dX12_tens_11 : decode cX12_tens 11 = .ok (.iconst 1, 1) := by decide +kernel
theorem dX12_tens_12 : decode cX12_tens 12 = .ok (.isub, 1) := by decide +kernel
theorem dX12_tens_13 : decode cX12_tens 13 = .ok (.invokestatic 49, 3) := by decide +kernel
theorem dX12_tens_16 : decode cX12_tens 16 = .ok (.imul, 1) := by decide +kernel
theorem dX12_tens_17 : decode cX12_tens 17 = .ok (.ireturn, 1) := by decide +kernel
theorem dX12_grow_0 : decode cX12_grow 0 = .ok (.aload_n 0, 1) := by decide +kernel
theorem dX12_grow_1 : decode cX12_grow 1 = .ok (.iload_n 1, 1) := by decide +kernel
theorem dX12_grow_2 : decode cX12_grow 2 = .ok (.putfield 53, 3) := by decide +kernel
theorem dX12_grow_5 : decode cX12_grow 5 = .ok (.sipush 132, 3) := by decide +kernel
theorem dX12_grow_8 : decode cX12_grow 8 = .ok (.newarray .int, 2) := by decide +kernel
theorem dX12_grow_10 : decode cX12_grow 10 = .ok (.astore_n 2, 1) := by decide +kernel
theorem dX12_grow_11 : decode cX12_grow 11 = .ok (.iconst 0, 1) := by decide +kernel
theorem dX12_grow_12 : decode cX12_grow 12 = .ok (.istore_n 3, 1) := by decide +kernel
theorem dX12_grow_13 : decode cX12_grow 13 = .ok (.iconst 0, 1) := by decide +kernel
theorem dX12_grow_14 : decode cX12_grow 14 = .ok (.istore 4, 2) := by decide +kernel
theorem dX12_grow_16 : decode cX12_grow 16 = .ok (.iload 4, 2) := by decide +kernel
theorem dX12_grow_18 : decode cX12_grow 18 = .ok (.iconst 1, 1) := by decide +kernel
theorem dX12_grow_19 : decode cX12_grow 19 = .ok (.iconst 2, 1) := by decide +kernel
theorem dX12_grow_20 : decode cX12_grow 20 = .ok (.iload_n 1, 1) := by decide +kernel
theorem dX12_grow_21 : decode cX12_grow 21 = .ok (.imul, 1) := by decide +kernel
theorem dX12_grow_22 : decode cX12_grow 22 = .ok (.ishl, 1) := by decide +kernel
theorem dX12_grow_23 : decode cX12_grow 23 = .ok (.if_icmp .ge 28, 3) := by decide +kernel
theorem dX12_grow_26 : decode cX12_grow 26 = .ok (.iload 4, 2) := by decide +kernel
theorem dX12_grow_28 : decode cX12_grow 28 = .ok (.iconst 2, 1) := by decide +kernel
theorem dX12_grow_29 : decode cX12_grow 29 = .ok (.iload_n 1, 1) := by decide +kernel
theorem dX12_grow_30 : decode cX12_grow 30 = .ok (.imul, 1) := by decide +kernel
theorem dX12_grow_31 : decode cX12_grow 31 = .ok (.invokestatic 56, 3) := by decide +kernel
theorem dX12_grow_34 : decode cX12_grow 34 = .ok (.ifCond .eq 11, 3) := by decide +kernel
theorem dX12_grow_37 : decode cX12_grow 37 = .ok (.aload_n 2, 1) := by decide +kernel
theorem dX12_grow_38 : decode cX12_grow 38 = .ok (.iload_n 3, 1) := by decide +kernel
theorem dX12_grow_39 : decode cX12_grow 39 = .ok (.iinc 3 1, 3) := by decide +kernel
theorem dX12_grow_42 : decode cX12_grow 42 = .ok (.iload 4, 2) := by decide +kernel
theorem dX12_grow_44 : decode cX12_grow 44 = .ok (.iastore, 1) := by decide +kernel
theorem dX12_grow_45 : decode cX12_grow 45 = .ok (.iinc 4 1, 3) := by decide +kernel
theorem dX12_grow_48 : decode cX12_grow 48 = .ok (.goto (-32), 3) := by decide +kernel
theorem dX12_grow_51 : decode cX12_grow 51 = .ok (.aload_n 0, 1) := by decide +kernel
theorem dX12_grow_52 : decode cX12_grow 52 = .ok (.getfield 11, 3) := by decide +kernel
theorem dX12_grow_55 : decode cX12_grow 55 = .ok (.iconst 0, 1) := by decide +kernel
theorem dX12_grow_56 : decode cX12_grow 56 = .ok (.iload_n 3, 1) := by decide +kernel
theorem dX12_grow_57 : decode cX12_grow 57 = .ok (.newarray .int, 2) := by decide +kernel
theorem dX12_grow_59 : decode cX12_grow 59 = .ok (.aastore, 1) := by decide +kernel
theorem dX12_grow_60 : decode cX12_grow 60 = .ok (.aload_n 2, 1) := by decide +kernel
theorem dX12_grow_61 : decode cX12_grow 61 = .ok (.iconst 0, 1) := by decide +kernel
theorem dX12_grow_62 : decode cX12_grow 62 = .ok (.aload_n 0, 1) := by decide +kernel
theorem dX12_grow_63 : decode cX12_grow 63 = .ok (.getfield 11, 3) := by decide +kernel
theorem dX12_grow_66 : decode cX12_grow 66 = .ok (.iconst 0, 1) := by decide +kernel
theorem dX12_grow_67 : decode cX12_grow 67 = .ok (.aaload, 1) := by decide +kernel
theorem dX12_grow_68 : decode cX12_grow 68 = .ok (.iconst 0, 1) := by decide +kernel
theorem dX12_grow_69 : decode cX12_grow 69 = .ok (.iload_n 3, 1) := by decide +kernel
theorem dX12_grow_70 : decode cX12_grow 70 = .ok (.invokestatic 60, 3) := by decide +kernel
theorem dX12_grow_73 : decode cX12_grow 73 = .ok (.aload_n 0, 1) := by decide +kernel
theorem dX12_grow_74 : decode cX12_grow 74 = .ok (.getfield 11, 3) := by decide +kernel
theorem dX12_grow_77 : decode cX12_grow 77 = .ok (.iconst 1, 1) := by decide +kernel
theorem dX12_grow_78 : decode cX12_grow 78 = .ok (.aload_n 0, 1) := by decide +kernel
theorem dX12_grow_79 : decode cX12_grow 79 = .ok (.getfield 11, 3) := by decide +kernel
theorem dX12_grow_82 : decode cX12_grow 82 = .ok (.iconst 0, 1) := by decide +kernel
theorem dX12_grow_83 : decode cX12_grow 83 = .ok (.aaload, 1) := by decide +kernel
theorem dX12_grow_84 : decode cX12_grow 84 = .ok (.aastore, 1) := by decide +kernel
theorem dX12_grow_85 : decode cX12_grow 85 = .ok (.iconst 1, 1) := by decide +kernel
theorem dX12_grow_86 : decode cX12_grow 86 = .ok (.istore 4, 2) := by decide +kernel
theorem dX12_grow_88 : decode cX12_grow 88 = .ok (.iconst 2, 1) := by decide +kernel
theorem dX12_grow_89 : decode cX12_grow 89 = .ok (.istore 5, 2) := by decide +kernel
theorem dX12_grow_91 : decode cX12_grow 91 = .ok (.iload 5, 2) := by decide +kernel
theorem dX12_grow_93 : decode cX12_grow 93 = .ok (.iload_n 1, 1) := by decide +kernel
theorem dX12_grow_94 : decode cX12_grow 94 = .ok (.if_icmp .gt 16, 3) := by decide +kernel
theorem dX12_grow_97 : decode cX12_grow 97 = .ok (.iload 4, 2) := by decide +kernel
theorem dX12_grow_99 : decode cX12_grow 99 = .ok (.iload 5, 2) := by decide +kernel
theorem dX12_grow_101 : decode cX12_grow 101 = .ok (.imul, 1) := by decide +kernel
theorem dX12_grow_102 : decode cX12_grow 102 = .ok (.istore 4, 2) := by decide +kernel
theorem dX12_grow_104 : decode cX12_grow 104 = .ok (.iinc 5 1, 3) := by decide +kernel
theorem dX12_grow_107 : decode cX12_grow 107 = .ok (.goto (-16), 3) := by decide +kernel
theorem dX12_grow_110 : decode cX12_grow 110 = .ok (.aload_n 0, 1) := by decide +kernel
theorem dX12_grow_111 : decode cX12_grow 111 = .ok (.getfield 11, 3) := by decide +kernel
theorem dX12_grow_114 : decode cX12_grow 114 = .ok (.iconst 2, 1) := by decide +kernel
theorem dX12_grow_115 : decode cX12_grow 115 = .ok (.iload 4, 2) := by decide +kernel
theorem dX12_grow_117 : decode cX12_grow 117 = .ok (.newarray .int, 2) := by decide +kernel
theorem dX12_grow_119 : decode cX12_grow 119 = .ok (.aastore, 1) := by decide +kernel
theorem dX12_grow_120 : decode cX12_grow 120 = .ok (.iconst 0, 1) := by decide +kernel
theorem dX12_grow_121 : decode cX12_grow 121 = .ok (.istore_n 3, 1) := by decide +kernel
theorem dX12_grow_122 : decode cX12_grow 122 = .ok (.aload_n 0, 1) := by decide +kernel
theorem dX12_grow_123 : decode cX12_grow 123 = .ok (.iconst 0, 1) := by decide +kernel
theorem dX12_grow_124 : decode cX12_grow 124 = .ok (.iconst 0, 1) := by decide +kernel
theorem dX12_grow_125 : decode cX12_grow 125 = .ok (.iconst 1, 1) := by decide +kernel
theorem dX12_grow_126 : decode cX12_grow 126 = .ok (.newarray .int, 2) := by decide +kernel
theorem dX12_grow_128 : decode cX12_grow 128 = .ok (.dup, 1) := by decide +kernel
theorem dX12_grow_129 : decode cX12_grow 129 = .ok (.iconst 0, 1) := by decide +kernel
theorem dX12_grow_130 : decode cX12_grow 130 = .ok (.iconst 0, 1) := by decide +kernel
theorem dX12_grow_131 : decode cX12_grow 131 = .ok (.iastore, 1) := by decide +kernel
theorem dX12_grow_132 : decode cX12_grow 132 = .ok (.invokevirtual 66, 3) := by decide +kernel
theorem dX12_grow_135 : decode cX12_grow 135 = .ok (.return_, 1) := by decide +kernel
theorem dX12_fill_0 : decode cX12_fill 0 = .ok (.iload_n 2, 1) := by decide +kernel
theorem dX12_fill_1 : decode cX12_fill 1 = .ok (.iconst 1, 1) := by decide +kernel
theorem dX12_fill_2 : decode cX12_fill 2 = .ok (.aload_n 0, 1) := by decide +kernel
theorem dX12_fill_3 : decode cX12_fill 3 = .ok (.getfield 53, 3) := by decide +kernel
theorem dX12_fill_6 : decode cX12_fill 6 = .ok (.ishl, 1) := by decide +kernel
theorem dX12_fill_7 : decode cX12_fill 7 = .ok (.iconst 1, 1) := by decide +kernel
theorem dX12_fill_8 : decode cX12_fill 8 = .ok (.isub, 1) := by decide +kernel
theorem dX12_fill_9 : decode cX12_fill 9 = .ok (.if_icmp .ne 20, 3) := by decide +kernel
theorem dX12_fill_12 : decode cX12_fill 12 = .ok (.aload_n 0, 1) := by decide +kernel
theorem dX12_fill_13 : decode cX12_fill 13 = .ok (.getfield 11, 3) := by decide +kernel
theorem dX12_fill_16 : decode cX12_fill 16 = .ok (.iconst 2, 1) := by decide +kernel
theorem dX12_fill_17 : decode cX12_fill 17 = .ok (.aaload, 1) := by decide +kernel
theorem dX12_fill_18 : decode cX12_fill 18 = .ok (.aload_n 3, 1) := by decide +kernel
theorem dX12_fill_19 : decode cX12_fill 19 = .ok (.iconst 0, 1) := by decide +kernel
theorem dX12_fill_20 : decode cX12_fill 20 = .ok (.dup2, 1) := by decide +kernel
theorem dX12_fill_21 : decode cX12_fill 21 = .ok (.iaload, 1) := by decide +kernel
theorem dX12_fill_22 : decode cX12_fill 22 = .ok (.dup_x2, 1) := by decide +kernel
theorem dX12_fill_23 : decode cX12_fill 23 = .ok (.iconst 1, 1) := by decide +kernel
theorem dX12_fill_24 : decode cX12_fill 24 = .ok (.iadd, 1) := by decide +kernel
theorem dX12_fill_25 : decode cX12_fill 25 = .ok (.iastore, 1) := by decide +kernel
theorem dX12_fill_26 : decode cX12_fill 26 = .ok (.iload_n 1, 1) := by decide +kernel
theorem dX12_fill_27 : decode cX12_fill 27 = .ok (.iastore, 1) := by decide +kernel
theorem dX12_fill_28 : decode cX12_fill 28 = .ok (.return_, 1) := by decide +kernel
theorem dX12_fill_29 : decode cX12_fill 29 = .ok (.iconst 0, 1) := by decide +kernel
theorem dX12_fill_30 : decode cX12_fill 30 = .ok (.istore 4, 2) := by decide +kernel
theorem dX12_fill_32 : decode cX12_fill 32 = .ok (.iload 4, 2) := by decide +kernel
theorem dX12_fill_34 : decode cX12_fill 34 = .ok (.aload_n 0, 1) := by decide +kernel
theorem dX12_fill_35 : decode cX12_fill 35 = .ok (.getfield 53, 3) := by decide +kernel
theorem dX12_fill_38 : decode cX12_fill 38 = .ok (.if_icmp .ge 38, 3) := by decide +kernel
theorem dX12_fill_41 : decode cX12_fill 41 = .ok (.iload_n 2, 1) := by decide +kernel
theorem dX12_fill_42 : decode cX12_fill 42 = .ok (.iload 4, 2) := by decide +kernel
theorem dX12_fill_44 : decode cX12_fill 44 = .ok (.ishr, 1) := by decide +kernel
theorem dX12_fill_45 : decode cX12_fill 45 = .ok (.iconst 1, 1) := by decide +kernel
theorem dX12_fill_46 : decode cX12_fill 46 = .ok (.iand, 1) := by decide +kernel
theorem dX12_fill_47 : decode cX12_fill 47 = .ok (.ifCond .ne 23, 3) := by decide +kernel
theorem dX12_fill_50 : decode cX12_fill 50 = .ok (.aload_n 0, 1) := by decide +kernel
theorem dX12_fill_51 : decode cX12_fill 51 = .ok (.bipush 10, 2) := by decide +kernel
theorem dX12_fill_53 : decode cX12_fill 53 = .ok (.iload_n 1, 1) := by decide +kernel
theorem dX12_fill_54 : decode cX12_fill 54 = .ok (.imul, 1) := by decide +kernel
theorem dX12_fill_55 : decode cX12_fill 55 = .ok (.iload 4, 2) := by decide +kernel
theorem dX12_fill_57 : decode cX12_fill 57 = .ok (.iadd, 1) := by decide +kernel
theorem dX12_fill_58 : decode cX12_fill 58 = .ok (.iconst 1, 1) := by decide +kernel
theorem dX12_fill_59 : decode cX12_fill 59 = .ok (.iadd, 1) := by decide +kernel
theorem dX12_fill_60 : decode cX12_fill 60 = .ok (.iload_n 2, 1) := by decide +kernel
theorem dX12_fill_61 : decode cX12_fill 61 = .ok (.iconst 1, 1) := by decide +kernel
theorem dX12_fill_62 : decode cX12_fill 62 = .ok (.iload 4, 2) := by decide +kernel
theorem dX12_fill_64 : decode cX12_fill 64 = .ok (.ishl, 1) := by decide +kernel
theorem dX12_fill_65 : decode cX12_fill 65 = .ok (.ior, 1) := by decide +kernel
theorem dX12_fill_66 : decode cX12_fill 66 = .ok (.aload_n 3, 1) := by decide +kernel
theorem dX12_fill_67 : decode cX12_fill 67 = .ok (.invokevirtual 66, 3) := by decide +kernel
theorem dX12_fill_70 : decode cX12_fill 70 = .ok (.iinc 4 1, 3) := by decide +kernel
theorem dX12_fill_73 : decode cX12_fill 73 = .ok (.goto (-41), 3) := by decide +kernel
theorem dX12_fill_76 : decode cX12_fill 76 = .ok (.return_, 1) := by decide +kernel
theorem dX12_index_0 : decode cX12_index 0 = .ok (.iconst 0, 1) := by decide +kernel
theorem dX12_index_1 : decode cX12_index 1 = .ok (.istore_n 3, 1) := by decide +kernel
theorem dX12_index_2 : decode cX12_index 2 = .ok (.aload_n 0, 1) := by decide +kernel
theorem dX12_index_3 : decode cX12_index 3 = .ok (.getfield 11, 3) := by decide +kernel
theorem dX12_index_6 : decode cX12_index 6 = .ok (.iload_n 1, 1) := by decide +kernel
theorem dX12_index_7 : decode cX12_index 7 = .ok (.aaload, 1) := by decide +kernel
theorem dX12_index_8 : decode cX12_index 8 = .ok (.arraylength, 1) := by decide +kernel
theorem dX12_index_9 : decode cX12_index 9 = .ok (.iconst 1, 1) := by decide +kernel
theorem dX12_index_10 : decode cX12_index 10 = .ok (.isub, 1) := by decide +kernel
theorem dX12_index_11 : decode cX12_index 11 = .ok (.istore 4, 2) := by decide +kernel
theorem dX12_index_13 : decode cX12_index 13 = .ok (.iload_n 3, 1) := by decide +kernel
theorem dX12_index_14 : decode cX12_index 14 = .ok (.iload 4, 2) := by decide +kernel
theorem dX12_index_16 : decode cX12_index 16 = .ok (.if_icmp .gt 57, 3) := by decide +kernel
theorem dX12_index_19 : decode cX12_index 19 = .ok (.iload_n 3, 1) := by decide +kernel
theorem dX12_index_20 : decode cX12_index 20 = .ok (.iload 4, 2) := by decide +kernel
theorem dX12_index_22 : decode cX12_index 22 = .ok (.iadd, 1) := by decide +kernel
theorem dX12_index_23 : decode cX12_index 23 = .ok (.iconst 2, 1) := by decide +kernel
theorem dX12_index_24 : decode cX12_index 24 = .ok (.idiv, 1) := by decide +kernel
theorem dX12_index_25 : decode cX12_index 25 = .ok (.istore 5, 2) := by decide +kernel
theorem dX12_index_27 : decode cX12_index 27 = .ok (.aload_n 0, 1) := by decide +kernel
theorem dX12_index_28 : decode cX12_index 28 = .ok (.getfield 11, 3) := by decide +kernel
theorem dX12_index_31 : decode cX12_index 31 = .ok (.iload_n 1, 1) := by decide +kernel
theorem dX12_index_32 : decode cX12_index 32 = .ok (.aaload, 1) := by decide +kernel
theorem dX12_index_33 : decode cX12_index 33 = .ok (.iload 5, 2) := by decide +kernel
theorem dX12_index_35 : decode cX12_index 35 = .ok (.iaload, 1) := by decide +kernel
theorem dX12_index_36 : decode cX12_index 36 = .ok (.iload_n 2, 1) := by decide +kernel
theorem dX12_index_37 : decode cX12_index 37 = .ok (.if_icmp .ne 6, 3) := by decide +kernel
theorem dX12_index_40 : decode cX12_index 40 = .ok (.iload 5, 2) := by decide +kernel
theorem dX12_index_42 : decode cX12_index 42 = .ok (.ireturn, 1) := by decide +kernel
theorem dX12_index_43 : decode cX12_index 43 = .ok (.aload_n 0, 1) := by decide +kernel
theorem dX12_index_44 : decode cX12_index 44 = .ok (.getfield 11, 3) := by decide +kernel
theorem dX12_index_47 : decode cX12_index 47 = .ok (.iload_n 1, 1) := by decide +kernel
theorem dX12_index_48 : decode cX12_index 48 = .ok (.aaload, 1) := by decide +kernel
theorem dX12_index_49 : decode cX12_index 49 = .ok (.iload 5, 2) := by decide +kernel
theorem dX12_index_51 : decode cX12_index 51 = .ok (.iaload, 1) := by decide +kernel
theorem dX12_index_52 : decode cX12_index 52 = .ok (.iload_n 2, 1) := by decide +kernel
theorem dX12_index_53 : decode cX12_index 53 = .ok (.if_icmp .ge 11, 3) := by decide +kernel
theorem dX12_index_56 : decode cX12_index 56 = .ok (.iload 5, 2) := by decide +kernel
theorem dX12_index_58 : decode cX12_index 58 = .ok (.iconst 1, 1) := by decide +kernel
theorem dX12_index_59 : decode cX12_index 59 = .ok (.iadd, 1) := by decide +kernel
theorem dX12_index_60 : decode cX12_index 60 = .ok (.istore_n 3, 1) := by decide +kernel
theorem dX12_index_61 : decode cX12_index 61 = .ok (.goto 9, 3) := by decide +kernel
theorem dX12_index_64 : decode cX12_index 64 = .ok (.iload 5, 2) := by decide +kernel
theorem dX12_index_66 : decode cX12_index 66 = .ok (.iconst 1, 1) := by decide +kernel
theorem dX12_index_67 : decode cX12_index 67 = .ok (.isub, 1) := by decide +kernel
theorem dX12_index_68 : decode cX12_index 68 = .ok (.istore 4, 2) := by decide +kernel
theorem dX12_index_70 : decode cX12_index 70 = .ok (.goto (-57), 3) := by decide +kernel
theorem dX12_index_73 : decode cX12_index 73 = .ok (.iconst (-1), 1) := by decide +kernel
theorem dX12_index_74 : decode cX12_index 74 = .ok (.ireturn, 1) := by decide +kernel
theorem dX12_first_0 : decode cX12_first 0 = .ok (.iconst 0, 1) := by decide +kernel
theorem dX12_first_1 : decode cX12_first 1 = .ok (.istore_n 2, 1) := by decide +kernel
theorem dX12_first_2 : decode cX12_first 2 = .ok (.iload_n 1, 1) := by decide +kernel
theorem dX12_first_3 : decode cX12_first 3 = .ok (.iconst 1, 1) := by decide +kernel
theorem dX12_first_4 : decode cX12_first 4 = .ok (.isub, 1) := by decide +kernel
theorem dX12_first_5 : decode cX12_first 5 = .ok (.istore_n 3, 1) := by decide +kernel
theorem dX12_first_6 : decode cX12_first 6 = .ok (.iload_n 3, 1) := by decide +kernel
theorem dX12_first_7 : decode cX12_first 7 = .ok (.ifCond .lt 34, 3) := by decide +kernel
theorem dX12_first_10 : decode cX12_first 10 = .ok (.iload_n 2, 1) := by decide +kernel
theorem dX12_first_11 : decode cX12_first 11 = .ok (.iload_n 0, 1) := by decide +kernel
theorem dX12_first_12 : decode cX12_first 12 = .ok (.iload_n 3, 1) := by decide +kernel
theorem dX12_first_13 : decode cX12_first 13 = .ok (.ishr, 1) := by decide +kernel
theorem dX12_first_14 : decode cX12_first 14 = .ok (.iconst 1, 1) := by decide +kernel
theorem dX12_first_15 : decode cX12_first 15 = .ok (.iand, 1) := by decide +kernel
theorem dX12_first_16 : decode cX12_first 16 = .ok (.iconst 1, 1) := by decide +kernel
theorem dX12_first_17 : decode cX12_first 17 = .ok (.if_icmp .ne 7, 3) := by decide +kernel
theorem dX12_first_20 : decode cX12_first 20 = .ok (.iconst 1, 1) := by decide +kernel
theorem dX12_first_21 : decode cX12_first 21 = .ok (.goto 4, 3) := by decide +kernel
theorem dX12_first_24 : decode cX12_first 24 = .ok (.iconst (-1), 1) := by decide +kernel
theorem dX12_first_25 : decode cX12_first 25 = .ok (.iadd, 1) := by decide +kernel
theorem dX12_first_26 : decode cX12_first 26 = .ok (.istore_n 2, 1) := by decide +kernel
theorem dX12_first_27 : decode cX12_first 27 = .ok (.iload_n 2, 1) := by decide +kernel
theorem dX12_first_28 : decode cX12_first 28 = .ok (.ifCond .ne 7, 3) := by decide +kernel
theorem dX12_first_31 : decode cX12_first 31 = .ok (.iload_n 1, 1) := by decide +kernel
theorem dX12_first_32 : decode cX12_first 32 = .ok (.iload_n 3, 1) := by decide +kernel
theorem dX12_first_33 : decode cX12_first 33 = .ok (.isub, 1) := by decide +kernel
theorem dX12_first_34 : decode cX12_first 34 = .ok (.ireturn, 1) := by decide +kernel
theorem dX12_first_35 : decode cX12_first 35 = .ok (.iinc 3 (-1), 3) := by decide +kernel
theorem dX12_first_38 : decode cX12_first 38 = .ok (.goto (-32), 3) := by decide +kernel
theorem dX12_first_41 : decode cX12_first 41 = .ok (.iload_n 1, 1) := by decide +kernel
theorem dX12_first_42 : decode cX12_first 42 = .ok (.ireturn, 1) := by decide +kernel
theorem dX12_part_0 : decode cX12_part 0 = .ok (.iload_n 0, 1) := by decide +kernel
theorem dX12_part_1 : decode cX12_part 1 = .ok (.iload_n 1, 1) := by decide +kernel
theorem dX12_part_2 : decode cX12_part 2 = .ok (.iload_n 2, 1) := by decide +kernel
theorem dX12_part_3 : decode cX12_part 3 = .ok (.isub, 1) := by decide +kernel
theorem dX12_part_4 : decode cX12_part 4 = .ok (.iload_n 3, 1) := by decide +kernel
theorem dX12_part_5 : decode cX12_part 5 = .ok (.isub, 1) := by decide +kernel
theorem dX12_part_6 : decode cX12_part 6 = .ok (.ishr, 1) := by decide +kernel
theorem dX12_part_7 : decode cX12_part 7 = .ok (.iconst 1, 1) := by decide +kernel
theorem dX12_part_8 : decode cX12_part 8 = .ok (.iload_n 3, 1) := by decide +kernel
theorem dX12_part_9 : decode cX12_part 9 = .ok (.ishl, 1) := by decide +kernel
theorem dX12_part_10 : decode cX12_part 10 = .ok (.iconst 1, 1) := by decide +kernel
theorem dX12_part_11 : decode cX12_part 11 = .ok (.isub, 1) := by decide +kernel
theorem dX12_part_12 : decode cX12_part 12 = .ok (.iand, 1) := by decide +kernel
theorem dX12_part_13 : decode cX12_part 13 = .ok (.ireturn, 1) := by decide +kernel
theorem dX12_read_0 : decode cX12_read 0 = .ok (.iload_n 1, 1) := by decide +kernel
theorem dX12_read_1 : decode cX12_read 1 = .ok (.istore_n 2, 1) := by decide +kernel
theorem dX12_read_2 : decode cX12_read 2 = .ok (.aload_n 0, 1) := by decide +kernel
theorem dX12_read_3 : decode cX12_read 3 = .ok (.getfield 53, 3) := by decide +kernel
theorem dX12_read_6 : decode cX12_read 6 = .ok (.iconst 1, 1) := by decide +kernel
theorem dX12_read_7 : decode cX12_read 7 = .ok (.isub, 1) := by decide +kernel
theorem dX12_read_8 : decode cX12_read 8 = .ok (.istore_n 3, 1) := by decide +kernel
theorem dX12_read_9 : decode cX12_read 9 = .ok (.iload_n 3, 1) := by decide +kernel
theorem dX12_read_10 : decode cX12_read 10 = .ok (.ifCond .lt 24, 3) := by decide +kernel
theorem dX12_read_13 : decode cX12_read 13 = .ok (.aload_n 0, 1) := by decide +kernel
theorem dX12_read_14 : decode cX12_read 14 = .ok (.getfield 28, 3) := by decide +kernel
theorem dX12_read_17 : decode cX12_read 17 = .ok (.iload_n 3, 1) := by decide +kernel
theorem dX12_read_18 : decode cX12_read 18 = .ok (.iload_n 2, 1) := by decide +kernel
theorem dX12_read_19 : decode cX12_read 19 = .ok (.bipush 10, 2) := by decide +kernel
theorem dX12_read_21 : decode cX12_read 21 = .ok (.irem, 1) := by decide +kernel
theorem dX12_read_22 : decode cX12_read 22 = .ok (.iastore, 1) := by decide +kernel
theorem dX12_read_23 : decode cX12_read 23 = .ok (.iload_n 2, 1) := by decide +kernel
theorem dX12_read_24 : decode cX12_read 24 = .ok (.bipush 10, 2) := by decide +kernel
theorem dX12_read_26 : decode cX12_read 26 = .ok (.idiv, 1) := by decide +kernel
theorem dX12_read_27 : decode cX12_read 27 = .ok (.istore_n 2, 1) := by decide +kernel
theorem dX12_read_28 : decode cX12_read 28 = .ok (.iinc 3 (-1), 3) := by decide +kernel
theorem dX12_read_31 : decode cX12_read 31 = .ok (.goto (-22), 3) := by decide +kernel
theorem dX12_read_34 : decode cX12_read 34 = .ok (.return_, 1) := by decide +kernel
theorem dX12_written_0 : decode cX12_written 0 = .ok (.iconst 0, 1) := by decide +kernel
theorem dX12_written_1 : decode cX12_written 1 = .ok (.istore_n 1, 1) := by decide +kernel
theorem dX12_written_2 : decode cX12_written 2 = .ok (.iconst 0, 1) := by decide +kernel
theorem dX12_written_3 : decode cX12_written 3 = .ok (.istore_n 2, 1) := by decide +kernel
theorem dX12_written_4 : decode cX12_written 4 = .ok (.iload_n 2, 1) := by decide +kernel
theorem dX12_written_5 : decode cX12_written 5 = .ok (.aload_n 0, 1) := by decide +kernel
theorem dX12_written_6 : decode cX12_written 6 = .ok (.getfield 53, 3) := by decide +kernel
theorem dX12_written_9 : decode cX12_written 9 = .ok (.if_icmp .ge 21, 3) := by decide +kernel
theorem dX12_written_12 : decode cX12_written 12 = .ok (.bipush 10, 2) := by decide +kernel
theorem dX12_written_14 : decode cX12_written 14 = .ok (.iload_n 1, 1) := by decide +kernel
theorem dX12_written_15 : decode cX12_written 15 = .ok (.imul, 1) := by decide +kernel
theorem dX12_written_16 : decode cX12_written 16 = .ok (.aload_n 0, 1) := by decide +kernel
theorem dX12_written_17 : decode cX12_written 17 = .ok (.getfield 31, 3) := by decide +kernel
theorem dX12_written_20 : decode cX12_written 20 = .ok (.iload_n 2, 1) := by decide +kernel
theorem dX12_written_21 : decode cX12_written 21 = .ok (.iaload, 1) := by decide +kernel
theorem dX12_written_22 : decode cX12_written 22 = .ok (.iadd, 1) := by decide +kernel
theorem dX12_written_23 : decode cX12_written 23 = .ok (.istore_n 1, 1) := by decide +kernel
theorem dX12_written_24 : decode cX12_written 24 = .ok (.iinc 2 1, 3) := by decide +kernel
theorem dX12_written_27 : decode cX12_written 27 = .ok (.goto (-23), 3) := by decide +kernel
theorem dX12_written_30 : decode cX12_written 30 = .ok (.iload_n 1, 1) := by decide +kernel
theorem dX12_written_31 : decode cX12_written 31 = .ok (.ireturn, 1) := by decide +kernel
theorem dX12_sort_0 : decode cX12_sort 0 = .ok (.aload_n 0, 1) := by decide +kernel
theorem dX12_sort_1 : decode cX12_sort 1 = .ok (.iload_n 1, 1) := by decide +kernel
theorem dX12_sort_2 : decode cX12_sort 2 = .ok (.invokevirtual 97, 3) := by decide +kernel
theorem dX12_sort_5 : decode cX12_sort 5 = .ok (.iconst 0, 1) := by decide +kernel
theorem dX12_sort_6 : decode cX12_sort 6 = .ok (.istore_n 2, 1) := by decide +kernel
theorem dX12_sort_7 : decode cX12_sort 7 = .ok (.iconst 0, 1) := by decide +kernel
theorem dX12_sort_8 : decode cX12_sort 8 = .ok (.istore_n 3, 1) := by decide +kernel
theorem dX12_sort_9 : decode cX12_sort 9 = .ok (.iconst 0, 1) := by decide +kernel
theorem dX12_sort_10 : decode cX12_sort 10 = .ok (.istore 4, 2) := by decide +kernel
theorem dX12_sort_12 : decode cX12_sort 12 = .ok (.iload 4, 2) := by decide +kernel
theorem dX12_sort_14 : decode cX12_sort 14 = .ok (.aload_n 0, 1) := by decide +kernel
theorem dX12_sort_15 : decode cX12_sort 15 = .ok (.getfield 53, 3) := by decide +kernel
theorem dX12_sort_18 : decode cX12_sort 18 = .ok (.if_icmp .ge 68, 3) := by decide +kernel
theorem dX12_sort_21 : decode cX12_sort 21 = .ok (.iload_n 2, 1) := by decide +kernel
theorem dX12_sort_22 : decode cX12_sort 22 = .ok (.ifCond .le 42, 3) := by decide +kernel
theorem dX12_sort_25 : decode cX12_sort 25 = .ok (.aload_n 0, 1) := by decide +kernel
theorem dX12_sort_26 : decode cX12_sort 26 = .ok (.getfield 34, 3) := by decide +kernel
theorem dX12_sort_29 : decode cX12_sort 29 = .ok (.iload_n 2, 1) := by decide +kernel
theorem dX12_sort_30 : decode cX12_sort 30 = .ok (.iconst 1, 1) := by decide +kernel
theorem dX12_sort_31 : decode cX12_sort 31 = .ok (.isub, 1) := by decide +kernel
theorem dX12_sort_32 : decode cX12_sort 32 = .ok (.iaload, 1) := by decide +kernel
theorem dX12_sort_33 : decode cX12_sort 33 = .ok (.aload_n 0, 1) := by decide +kernel
theorem dX12_sort_34 : decode cX12_sort 34 = .ok (.getfield 28, 3) := by decide +kernel
theorem dX12_sort_37 : decode cX12_sort 37 = .ok (.iload 4, 2) := by decide +kernel
theorem dX12_sort_39 : decode cX12_sort 39 = .ok (.iaload, 1) := by decide +kernel
theorem dX12_sort_40 : decode cX12_sort 40 = .ok (.if_icmp .ge 24, 3) := by decide +kernel
theorem dX12_sort_43 : decode cX12_sort 43 = .ok (.aload_n 0, 1) := by decide +kernel
theorem dX12_sort_44 : decode cX12_sort 44 = .ok (.getfield 31, 3) := by decide +kernel
theorem dX12_sort_47 : decode cX12_sort 47 = .ok (.iload_n 3, 1) := by decide +kernel
theorem dX12_sort_48 : decode cX12_sort 48 = .ok (.iinc 3 1, 3) := by decide +kernel
theorem dX12_sort_51 : decode cX12_sort 51 = .ok (.aload_n 0, 1) := by decide +kernel
theorem dX12_sort_52 : decode cX12_sort 52 = .ok (.getfield 34, 3) := by decide +kernel
theorem dX12_sort_55 : decode cX12_sort 55 = .ok (.iinc 2 (-1), 3) := by decide +kernel
theorem dX12_sort_58 : decode cX12_sort 58 = .ok (.iload_n 2, 1) := by decide +kernel
theorem dX12_sort_59 : decode cX12_sort 59 = .ok (.iaload, 1) := by decide +kernel
theorem dX12_sort_60 : decode cX12_sort 60 = .ok (.iastore, 1) := by decide +kernel
theorem dX12_sort_61 : decode cX12_sort 61 = .ok (.goto (-40), 3) := by decide +kernel
theorem dX12_sort_64 : decode cX12_sort 64 = .ok (.aload_n 0, 1) := by decide +kernel
theorem dX12_sort_65 : decode cX12_sort 65 = .ok (.getfield 34, 3) := by decide +kernel
theorem dX12_sort_68 : decode cX12_sort 68 = .ok (.iload_n 2, 1) := by decide +kernel
theorem dX12_sort_69 : decode cX12_sort 69 = .ok (.iinc 2 1, 3) := by decide +kernel
theorem dX12_sort_72 : decode cX12_sort 72 = .ok (.aload_n 0, 1) := by decide +kernel
theorem dX12_sort_73 : decode cX12_sort 73 = .ok (.getfield 28, 3) := by decide +kernel
theorem dX12_sort_76 : decode cX12_sort 76 = .ok (.iload 4, 2) := by decide +kernel
theorem dX12_sort_78 : decode cX12_sort 78 = .ok (.iaload, 1) := by decide +kernel
theorem dX12_sort_79 : decode cX12_sort 79 = .ok (.iastore, 1) := by decide +kernel
theorem dX12_sort_80 : decode cX12_sort 80 = .ok (.iinc 4 1, 3) := by decide +kernel
theorem dX12_sort_83 : decode cX12_sort 83 = .ok (.goto (-71), 3) := by decide +kernel
theorem dX12_sort_86 : decode cX12_sort 86 = .ok (.iload_n 2, 1) := by decide +kernel
theorem dX12_sort_87 : decode cX12_sort 87 = .ok (.ifCond .le 24, 3) := by decide +kernel
theorem dX12_sort_90 : decode cX12_sort 90 = .ok (.aload_n 0, 1) := by decide +kernel
theorem dX12_sort_91 : decode cX12_sort 91 = .ok (.getfield 31, 3) := by decide +kernel
theorem dX12_sort_94 : decode cX12_sort 94 = .ok (.iload_n 3, 1) := by decide +kernel
theorem dX12_sort_95 : decode cX12_sort 95 = .ok (.iinc 3 1, 3) := by decide +kernel
theorem dX12_sort_98 : decode cX12_sort 98 = .ok (.aload_n 0, 1) := by decide +kernel
theorem dX12_sort_99 : decode cX12_sort 99 = .ok (.getfield 34, 3) := by decide +kernel
theorem dX12_sort_102 : decode cX12_sort 102 = .ok (.iinc 2 (-1), 3) := by decide +kernel
theorem dX12_sort_105 : decode cX12_sort 105 = .ok (.iload_n 2, 1) := by decide +kernel
theorem dX12_sort_106 : decode cX12_sort 106 = .ok (.iaload, 1) := by decide +kernel
theorem dX12_sort_107 : decode cX12_sort 107 = .ok (.iastore, 1) := by decide +kernel
theorem dX12_sort_108 : decode cX12_sort 108 = .ok (.goto (-22), 3) := by decide +kernel
theorem dX12_sort_111 : decode cX12_sort 111 = .ok (.aload_n 0, 1) := by decide +kernel
theorem dX12_sort_112 : decode cX12_sort 112 = .ok (.invokevirtual 100, 3) := by decide +kernel
theorem dX12_sort_115 : decode cX12_sort 115 = .ok (.ireturn, 1) := by decide +kernel
theorem dX12_ofPath_0 : decode cX12_ofPath 0 = .ok (.iconst 4, 1) := by decide +kernel
theorem dX12_ofPath_1 : decode cX12_ofPath 1 = .ok (.newarray .int, 2) := by decide +kernel
theorem dX12_ofPath_3 : decode cX12_ofPath 3 = .ok (.astore_n 3, 1) := by decide +kernel
theorem dX12_ofPath_4 : decode cX12_ofPath 4 = .ok (.iconst 0, 1) := by decide +kernel
theorem dX12_ofPath_5 : decode cX12_ofPath 5 = .ok (.istore 4, 2) := by decide +kernel
theorem dX12_ofPath_7 : decode cX12_ofPath 7 = .ok (.iconst 2, 1) := by decide +kernel
theorem dX12_ofPath_8 : decode cX12_ofPath 8 = .ok (.aload_n 0, 1) := by decide +kernel
theorem dX12_ofPath_9 : decode cX12_ofPath 9 = .ok (.getfield 53, 3) := by decide +kernel
theorem dX12_ofPath_12 : decode cX12_ofPath 12 = .ok (.imul, 1) := by decide +kernel
theorem dX12_ofPath_13 : decode cX12_ofPath 13 = .ok (.iconst 1, 1) := by decide +kernel
theorem dX12_ofPath_14 : decode cX12_ofPath 14 = .ok (.isub, 1) := by decide +kernel
theorem dX12_ofPath_15 : decode cX12_ofPath 15 = .ok (.istore 5, 2) := by decide +kernel
theorem dX12_ofPath_17 : decode cX12_ofPath 17 = .ok (.iload 5, 2) := by decide +kernel
theorem dX12_ofPath_19 : decode cX12_ofPath 19 = .ok (.ifCond .lt 103, 3) := by decide +kernel
theorem dX12_ofPath_22 : decode cX12_ofPath 22 = .ok (.iload_n 2, 1) := by decide +kernel
theorem dX12_ofPath_23 : decode cX12_ofPath 23 = .ok (.iload 5, 2) := by decide +kernel
theorem dX12_ofPath_25 : decode cX12_ofPath 25 = .ok (.ishr, 1) := by decide +kernel
theorem dX12_ofPath_26 : decode cX12_ofPath 26 = .ok (.iconst 1, 1) := by decide +kernel
theorem dX12_ofPath_27 : decode cX12_ofPath 27 = .ok (.iand, 1) := by decide +kernel
theorem dX12_ofPath_28 : decode cX12_ofPath 28 = .ok (.iconst 1, 1) := by decide +kernel
theorem dX12_ofPath_29 : decode cX12_ofPath 29 = .ok (.if_icmp .ne 7, 3) := by decide +kernel
theorem dX12_ofPath_32 : decode cX12_ofPath 32 = .ok (.iconst 1, 1) := by decide +kernel
theorem dX12_ofPath_33 : decode cX12_ofPath 33 = .ok (.goto 4, 3) := by decide +kernel
theorem dX12_ofPath_36 : decode cX12_ofPath 36 = .ok (.iconst 0, 1) := by decide +kernel
theorem dX12_ofPath_37 : decode cX12_ofPath 37 = .ok (.istore 6, 2) := by decide +kernel
theorem dX12_ofPath_39 : decode cX12_ofPath 39 = .ok (.iload 4, 2) := by decide +kernel
theorem dX12_ofPath_41 : decode cX12_ofPath 41 = .ok (.iload 6, 2) := by decide +kernel
theorem dX12_ofPath_43 : decode cX12_ofPath 43 = .ok (.ifCond .eq 7, 3) := by decide +kernel
theorem dX12_ofPath_46 : decode cX12_ofPath 46 = .ok (.iconst 1, 1) := by decide +kernel
theorem dX12_ofPath_47 : decode cX12_ofPath 47 = .ok (.goto 4, 3) := by decide +kernel
theorem dX12_ofPath_50 : decode cX12_ofPath 50 = .ok (.iconst (-1), 1) := by decide +kernel
theorem dX12_ofPath_51 : decode cX12_ofPath 51 = .ok (.iadd, 1) := by decide +kernel
theorem dX12_ofPath_52 : decode cX12_ofPath 52 = .ok (.istore 4, 2) := by decide +kernel
theorem dX12_ofPath_54 : decode cX12_ofPath 54 = .ok (.aload_n 3, 1) := by decide +kernel
theorem dX12_ofPath_55 : decode cX12_ofPath 55 = .ok (.iconst 0, 1) := by decide +kernel
theorem dX12_ofPath_56 : decode cX12_ofPath 56 = .ok (.dup2, 1) := by decide +kernel
theorem dX12_ofPath_57 : decode cX12_ofPath 57 = .ok (.iaload, 1) := by decide +kernel
theorem dX12_ofPath_58 : decode cX12_ofPath 58 = .ok (.iload 6, 2) := by decide +kernel
theorem dX12_ofPath_60 : decode cX12_ofPath 60 = .ok (.ifCond .eq 18, 3) := by decide +kernel
theorem dX12_ofPath_63 : decode cX12_ofPath 63 = .ok (.iload_n 2, 1) := by decide +kernel
theorem dX12_ofPath_64 : decode cX12_ofPath 64 = .ok (.iload 5, 2) := by decide +kernel
theorem dX12_ofPath_66 : decode cX12_ofPath 66 = .ok (.iconst 1, 1) := by decide +kernel
theorem dX12_ofPath_67 : decode cX12_ofPath 67 = .ok (.isub, 1) := by decide +kernel
theorem dX12_ofPath_68 : decode cX12_ofPath 68 = .ok (.ishr, 1) := by decide +kernel
theorem dX12_ofPath_69 : decode cX12_ofPath 69 = .ok (.iconst 1, 1) := by decide +kernel
theorem dX12_ofPath_70 : decode cX12_ofPath 70 = .ok (.iand, 1) := by decide +kernel
theorem dX12_ofPath_71 : decode cX12_ofPath 71 = .ok (.ifCond .ne 7, 3) := by decide +kernel
theorem dX12_ofPath_74 : decode cX12_ofPath 74 = .ok (.iconst 1, 1) := by decide +kernel
theorem dX12_ofPath_75 : decode cX12_ofPath 75 = .ok (.goto 4, 3) := by decide +kernel
theorem dX12_ofPath_78 : decode cX12_ofPath 78 = .ok (.iconst 0, 1) := by decide +kernel
theorem dX12_ofPath_79 : decode cX12_ofPath 79 = .ok (.iadd, 1) := by decide +kernel
theorem dX12_ofPath_80 : decode cX12_ofPath 80 = .ok (.iastore, 1) := by decide +kernel
theorem dX12_ofPath_81 : decode cX12_ofPath 81 = .ok (.aload_n 3, 1) := by decide +kernel
theorem dX12_ofPath_82 : decode cX12_ofPath 82 = .ok (.iconst 1, 1) := by decide +kernel
theorem dX12_ofPath_83 : decode cX12_ofPath 83 = .ok (.dup2, 1) := by decide +kernel
theorem dX12_ofPath_84 : decode cX12_ofPath 84 = .ok (.iaload, 1) := by decide +kernel
theorem dX12_ofPath_85 : decode cX12_ofPath 85 = .ok (.iload 4, 2) := by decide +kernel
theorem dX12_ofPath_87 : decode cX12_ofPath 87 = .ok (.ifCond .ne 7, 3) := by decide +kernel
theorem dX12_ofPath_90 : decode cX12_ofPath 90 = .ok (.iconst 1, 1) := by decide +kernel
theorem dX12_ofPath_91 : decode cX12_ofPath 91 = .ok (.goto 4, 3) := by decide +kernel
theorem dX12_ofPath_94 : decode cX12_ofPath 94 = .ok (.iconst 0, 1) := by decide +kernel
theorem dX12_ofPath_95 : decode cX12_ofPath 95 = .ok (.iadd, 1) := by decide +kernel
theorem dX12_ofPath_96 : decode cX12_ofPath 96 = .ok (.iastore, 1) := by decide +kernel
theorem dX12_ofPath_97 : decode cX12_ofPath 97 = .ok (.aload_n 3, 1) := by decide +kernel
theorem dX12_ofPath_98 : decode cX12_ofPath 98 = .ok (.iconst 2, 1) := by decide +kernel
theorem dX12_ofPath_99 : decode cX12_ofPath 99 = .ok (.aload_n 3, 1) := by decide +kernel
theorem dX12_ofPath_100 : decode cX12_ofPath 100 = .ok (.iconst 2, 1) := by decide +kernel
theorem dX12_ofPath_101 : decode cX12_ofPath 101 = .ok (.iaload, 1) := by decide +kernel
theorem dX12_ofPath_102 : decode cX12_ofPath 102 = .ok (.iload 4, 2) := by decide +kernel
theorem dX12_ofPath_104 : decode cX12_ofPath 104 = .ok (.invokestatic 165, 3) := by decide +kernel
theorem dX12_ofPath_107 : decode cX12_ofPath 107 = .ok (.iastore, 1) := by decide +kernel
theorem dX12_ofPath_108 : decode cX12_ofPath 108 = .ok (.aload_n 3, 1) := by decide +kernel
theorem dX12_ofPath_109 : decode cX12_ofPath 109 = .ok (.iconst 3, 1) := by decide +kernel
theorem dX12_ofPath_110 : decode cX12_ofPath 110 = .ok (.dup2, 1) := by decide +kernel
theorem dX12_ofPath_111 : decode cX12_ofPath 111 = .ok (.iaload, 1) := by decide +kernel
theorem dX12_ofPath_112 : decode cX12_ofPath 112 = .ok (.iload 4, 2) := by decide +kernel
theorem dX12_ofPath_114 : decode cX12_ofPath 114 = .ok (.iadd, 1) := by decide +kernel
theorem dX12_ofPath_115 : decode cX12_ofPath 115 = .ok (.iastore, 1) := by decide +kernel
theorem dX12_ofPath_116 : decode cX12_ofPath 116 = .ok (.iinc 5 (-1), 3) := by decide +kernel
theorem dX12_ofPath_119 : decode cX12_ofPath 119 = .ok (.goto (-102), 3) := by decide +kernel
theorem dX12_ofPath_122 : decode cX12_ofPath 122 = .ok (.aload_n 3, 1) := by decide +kernel
theorem dX12_ofPath_123 : decode cX12_ofPath 123 = .ok (.iload_n 1, 1) := by decide +kernel
theorem dX12_ofPath_124 : decode cX12_ofPath 124 = .ok (.iaload, 1) := by decide +kernel
theorem dX12_ofPath_125 : decode cX12_ofPath 125 = .ok (.ireturn, 1) := by decide +kernel
theorem dX12_tree_0 : decode cX12_tree 0 = .ok (.iload_n 2, 1) := by decide +kernel
theorem dX12_tree_1 : decode cX12_tree 1 = .ok (.ifCond .ne 5, 3) := by decide +kernel
theorem dX12_tree_4 : decode cX12_tree 4 = .ok (.iconst 0, 1) := by decide +kernel
theorem dX12_tree_5 : decode cX12_tree 5 = .ok (.ireturn, 1) := by decide +kernel
theorem dX12_tree_6 : decode cX12_tree 6 = .ok (.iload_n 1, 1) := by decide +kernel
theorem dX12_tree_7 : decode cX12_tree 7 = .ok (.iload_n 2, 1) := by decide +kernel
theorem dX12_tree_8 : decode cX12_tree 8 = .ok (.invokestatic 70, 3) := by decide +kernel
theorem dX12_tree_11 : decode cX12_tree 11 = .ok (.iconst 2, 1) := by decide +kernel
theorem dX12_tree_12 : decode cX12_tree 12 = .ok (.isub, 1) := by decide +kernel
theorem dX12_tree_13 : decode cX12_tree 13 = .ok (.istore_n 3, 1) := by decide +kernel
theorem dX12_tree_14 : decode cX12_tree 14 = .ok (.iload_n 2, 1) := by decide +kernel
theorem dX12_tree_15 : decode cX12_tree 15 = .ok (.iload_n 3, 1) := by decide +kernel
theorem dX12_tree_16 : decode cX12_tree 16 = .ok (.isub, 1) := by decide +kernel
theorem dX12_tree_17 : decode cX12_tree 17 = .ok (.iconst 2, 1) := by decide +kernel
theorem dX12_tree_18 : decode cX12_tree 18 = .ok (.isub, 1) := by decide +kernel
theorem dX12_tree_19 : decode cX12_tree 19 = .ok (.istore 4, 2) := by decide +kernel
theorem dX12_tree_21 : decode cX12_tree 21 = .ok (.iload_n 0, 1) := by decide +kernel
theorem dX12_tree_22 : decode cX12_tree 22 = .ok (.iload_n 1, 1) := by decide +kernel
theorem dX12_tree_23 : decode cX12_tree 23 = .ok (.iload_n 2, 1) := by decide +kernel
theorem dX12_tree_24 : decode cX12_tree 24 = .ok (.iconst 1, 1) := by decide +kernel
theorem dX12_tree_25 : decode cX12_tree 25 = .ok (.iload_n 3, 1) := by decide +kernel
theorem dX12_tree_26 : decode cX12_tree 26 = .ok (.invokestatic 77, 3) := by decide +kernel
theorem dX12_tree_29 : decode cX12_tree 29 = .ok (.iload_n 3, 1) := by decide +kernel
theorem dX12_tree_30 : decode cX12_tree 30 = .ok (.invokestatic 170, 3) := by decide +kernel
theorem dX12_tree_33 : decode cX12_tree 33 = .ok (.istore 5, 2) := by decide +kernel
theorem dX12_tree_35 : decode cX12_tree 35 = .ok (.iload_n 0, 1) := by decide +kernel
theorem dX12_tree_36 : decode cX12_tree 36 = .ok (.iload_n 1, 1) := by decide +kernel
theorem dX12_tree_37 : decode cX12_tree 37 = .ok (.iload_n 2, 1) := by decide +kernel
theorem dX12_tree_38 : decode cX12_tree 38 = .ok (.iload_n 3, 1) := by decide +kernel
theorem dX12_tree_39 : decode cX12_tree 39 = .ok (.iconst 2, 1) := by decide +kernel
theorem dX12_tree_40 : decode cX12_tree 40 = .ok (.iadd, 1) := by decide +kernel
theorem dX12_tree_41 : decode cX12_tree 41 = .ok (.iload 4, 2) := by decide +kernel
theorem dX12_tree_43 : decode cX12_tree 43 = .ok (.invokestatic 77, 3) := by decide +kernel
theorem dX12_tree_46 : decode cX12_tree 46 = .ok (.iload 4, 2) := by decide +kernel
theorem dX12_tree_48 : decode cX12_tree 48 = .ok (.invokestatic 170, 3) := by decide +kernel
theorem dX12_tree_51 : decode cX12_tree 51 = .ok (.istore 6, 2) := by decide +kernel
theorem dX12_tree_53 : decode cX12_tree 53 = .ok (.iload_n 0, 1) := by decide +kernel
theorem dX12_tree_54 : decode cX12_tree 54 = .ok (.tableswitch 56 0 2 #[26, 41, 46], 26) := by decide +kernel
theorem dX12_tree_80 : decode cX12_tree 80 = .ok (.iload_n 2, 1) := by decide +kernel
theorem dX12_tree_81 : decode cX12_tree 81 = .ok (.iconst 2, 1) := by decide +kernel
theorem dX12_tree_82 : decode cX12_tree 82 = .ok (.if_icmp .ne 7, 3) := by decide +kernel
theorem dX12_tree_85 : decode cX12_tree 85 = .ok (.iconst 1, 1) := by decide +kernel
theorem dX12_tree_86 : decode cX12_tree 86 = .ok (.goto 8, 3) := by decide +kernel
theorem dX12_tree_89 : decode cX12_tree 89 = .ok (.iload 5, 2) := by decide +kernel
theorem dX12_tree_91 : decode cX12_tree 91 = .ok (.iload 6, 2) := by decide +kernel
theorem dX12_tree_93 : decode cX12_tree 93 = .ok (.iadd, 1) := by decide +kernel
theorem dX12_tree_94 : decode cX12_tree 94 = .ok (.ireturn, 1) := by decide +kernel
theorem dX12_tree_95 : decode cX12_tree 95 = .ok (.iconst 1, 1) := by decide +kernel
theorem dX12_tree_96 : decode cX12_tree 96 = .ok (.iload 5, 2) := by decide +kernel
theorem dX12_tree_98 : decode cX12_tree 98 = .ok (.iadd, 1) := by decide +kernel
theorem dX12_tree_99 : decode cX12_tree 99 = .ok (.ireturn, 1) := by decide +kernel
theorem dX12_tree_100 : decode cX12_tree 100 = .ok (.iconst 1, 1) := by decide +kernel
theorem dX12_tree_101 : decode cX12_tree 101 = .ok (.iload 5, 2) := by decide +kernel
theorem dX12_tree_103 : decode cX12_tree 103 = .ok (.iload 6, 2) := by decide +kernel
theorem dX12_tree_105 : decode cX12_tree 105 = .ok (.invokestatic 165, 3) := by decide +kernel
theorem dX12_tree_108 : decode cX12_tree 108 = .ok (.iadd, 1) := by decide +kernel
theorem dX12_tree_109 : decode cX12_tree 109 = .ok (.ireturn, 1) := by decide +kernel
theorem dX12_tree_110 : decode cX12_tree 110 = .ok (.iload 5, 2) := by decide +kernel
theorem dX12_tree_112 : decode cX12_tree 112 = .ok (.iload 6, 2) := by decide +kernel
theorem dX12_tree_114 : decode cX12_tree 114 = .ok (.iadd, 1) := by decide +kernel
theorem dX12_tree_115 : decode cX12_tree 115 = .ok (.iload 4, 2) := by decide +kernel
theorem dX12_tree_117 : decode cX12_tree 117 = .ok (.ifCond .le 7, 3) := by decide +kernel
theorem dX12_tree_120 : decode cX12_tree 120 = .ok (.iconst 1, 1) := by decide +kernel
theorem dX12_tree_121 : decode cX12_tree 121 = .ok (.goto 4, 3) := by decide +kernel
theorem dX12_tree_124 : decode cX12_tree 124 = .ok (.iconst 0, 1) := by decide +kernel
theorem dX12_tree_125 : decode cX12_tree 125 = .ok (.iadd, 1) := by decide +kernel
theorem dX12_tree_126 : decode cX12_tree 126 = .ok (.ireturn, 1) := by decide +kernel
theorem dX12_ofOrder_0 : decode cX12_ofOrder 0 = .ok (.aload_n 0, 1) := by decide +kernel
theorem dX12_ofOrder_1 : decode cX12_ofOrder 1 = .ok (.iload_n 2, 1) := by decide +kernel
theorem dX12_ofOrder_2 : decode cX12_ofOrder 2 = .ok (.invokevirtual 97, 3) := by decide +kernel
theorem dX12_ofOrder_5 : decode cX12_ofOrder 5 = .ok (.iconst 0, 1) := by decide +kernel
theorem dX12_ofOrder_6 : decode cX12_ofOrder 6 = .ok (.istore_n 3, 1) := by decide +kernel
theorem dX12_ofOrder_7 : decode cX12_ofOrder 7 = .ok (.iconst 0, 1) := by decide +kernel
theorem dX12_ofOrder_8 : decode cX12_ofOrder 8 = .ok (.istore 4, 2) := by decide +kernel
theorem dX12_ofOrder_10 : decode cX12_ofOrder 10 = .ok (.iconst 0, 1) := by decide +kernel
theorem dX12_ofOrder_11 : decode cX12_ofOrder 11 = .ok (.istore 5, 2) := by decide +kernel
theorem dX12_ofOrder_13 : decode cX12_ofOrder 13 = .ok (.iload 5, 2) := by decide +kernel
theorem dX12_ofOrder_15 : decode cX12_ofOrder 15 = .ok (.aload_n 0, 1) := by decide +kernel
theorem dX12_ofOrder_16 : decode cX12_ofOrder 16 = .ok (.getfield 53, 3) := by decide +kernel
theorem dX12_ofOrder_19 : decode cX12_ofOrder 19 = .ok (.if_icmp .ge 169, 3) := by decide +kernel
theorem dX12_ofOrder_22 : decode cX12_ofOrder 22 = .ok (.aload_n 0, 1) := by decide +kernel
theorem dX12_ofOrder_23 : decode cX12_ofOrder 23 = .ok (.getfield 28, 3) := by decide +kernel
theorem dX12_ofOrder_26 : decode cX12_ofOrder 26 = .ok (.iload 5, 2) := by decide +kernel
theorem dX12_ofOrder_28 : decode cX12_ofOrder 28 = .ok (.iaload, 1) := by decide +kernel
theorem dX12_ofOrder_29 : decode cX12_ofOrder 29 = .ok (.iload 4, 2) := by decide +kernel
theorem dX12_ofOrder_31 : decode cX12_ofOrder 31 = .ok (.if_icmp .le 7, 3) := by decide +kernel
theorem dX12_ofOrder_34 : decode cX12_ofOrder 34 = .ok (.iconst 1, 1) := by decide +kernel
theorem dX12_ofOrder_35 : decode cX12_ofOrder 35 = .ok (.goto 4, 3) := by decide +kernel
theorem dX12_ofOrder_38 : decode cX12_ofOrder 38 = .ok (.iconst 0, 1) := by decide +kernel
theorem dX12_ofOrder_39 : decode cX12_ofOrder 39 = .ok (.istore 6, 2) := by decide +kernel
theorem dX12_ofOrder_41 : decode cX12_ofOrder 41 = .ok (.iload 4, 2) := by decide +kernel
theorem dX12_ofOrder_43 : decode cX12_ofOrder 43 = .ok (.aload_n 0, 1) := by decide +kernel
theorem dX12_ofOrder_44 : decode cX12_ofOrder 44 = .ok (.getfield 28, 3) := by decide +kernel
theorem dX12_ofOrder_47 : decode cX12_ofOrder 47 = .ok (.iload 5, 2) := by decide +kernel
theorem dX12_ofOrder_49 : decode cX12_ofOrder 49 = .ok (.iaload, 1) := by decide +kernel
theorem dX12_ofOrder_50 : decode cX12_ofOrder 50 = .ok (.invokestatic 165, 3) := by decide +kernel
theorem dX12_ofOrder_53 : decode cX12_ofOrder 53 = .ok (.istore 4, 2) := by decide +kernel
theorem dX12_ofOrder_55 : decode cX12_ofOrder 55 = .ok (.iload_n 1, 1) := by decide +kernel
theorem dX12_ofOrder_56 : decode cX12_ofOrder 56 = .ok (.ifCond .ne 35, 3) := by decide +kernel
theorem dX12_ofOrder_59 : decode cX12_ofOrder 59 = .ok (.iload_n 3, 1) := by decide +kernel
theorem dX12_ofOrder_60 : decode cX12_ofOrder 60 = .ok (.iload 5, 2) := by decide +kernel
theorem dX12_ofOrder_62 : decode cX12_ofOrder 62 = .ok (.ifCond .le 26, 3) := by decide +kernel
theorem dX12_ofOrder_65 : decode cX12_ofOrder 65 = .ok (.aload_n 0, 1) := by decide +kernel
theorem dX12_ofOrder_66 : decode cX12_ofOrder 66 = .ok (.getfield 28, 3) := by decide +kernel
theorem dX12_ofOrder_69 : decode cX12_ofOrder 69 = .ok (.iload 5, 2) := by decide +kernel
theorem dX12_ofOrder_71 : decode cX12_ofOrder 71 = .ok (.iconst 1, 1) := by decide +kernel
theorem dX12_ofOrder_72 : decode cX12_ofOrder 72 = .ok (.isub, 1) := by decide +kernel
theorem dX12_ofOrder_73 : decode cX12_ofOrder 73 = .ok (.iaload, 1) := by decide +kernel
theorem dX12_ofOrder_74 : decode cX12_ofOrder 74 = .ok (.aload_n 0, 1) := by decide +kernel
theorem dX12_ofOrder_75 : decode cX12_ofOrder 75 = .ok (.getfield 28, 3) := by decide +kernel
theorem dX12_ofOrder_78 : decode cX12_ofOrder 78 = .ok (.iload 5, 2) := by decide +kernel
theorem dX12_ofOrder_80 : decode cX12_ofOrder 80 = .ok (.iaload, 1) := by decide +kernel
theorem dX12_ofOrder_81 : decode cX12_ofOrder 81 = .ok (.if_icmp .le 7, 3) := by decide +kernel
theorem dX12_ofOrder_84 : decode cX12_ofOrder 84 = .ok (.iconst 1, 1) := by decide +kernel
theorem dX12_ofOrder_85 : decode cX12_ofOrder 85 = .ok (.goto 4, 3) := by decide +kernel
theorem dX12_ofOrder_88 : decode cX12_ofOrder 88 = .ok (.iconst 0, 1) := by decide +kernel
theorem dX12_ofOrder_89 : decode cX12_ofOrder 89 = .ok (.iadd, 1) := by decide +kernel
theorem dX12_ofOrder_90 : decode cX12_ofOrder 90 = .ok (.istore_n 3, 1) := by decide +kernel
theorem dX12_ofOrder_91 : decode cX12_ofOrder 91 = .ok (.iload_n 1, 1) := by decide +kernel
theorem dX12_ofOrder_92 : decode cX12_ofOrder 92 = .ok (.iconst 2, 1) := by decide +kernel
theorem dX12_ofOrder_93 : decode cX12_ofOrder 93 = .ok (.if_icmp .ne 16, 3) := by decide +kernel
theorem dX12_ofOrder_96 : decode cX12_ofOrder 96 = .ok (.iload_n 3, 1) := by decide +kernel
theorem dX12_ofOrder_97 : decode cX12_ofOrder 97 = .ok (.iload 6, 2) := by decide +kernel
theorem dX12_ofOrder_99 : decode cX12_ofOrder 99 = .ok (.ifCond .eq 7, 3) := by decide +kernel
theorem dX12_ofOrder_102 : decode cX12_ofOrder 102 = .ok (.iconst 1, 1) := by decide +kernel
theorem dX12_ofOrder_103 : decode cX12_ofOrder 103 = .ok (.goto 4, 3) := by decide +kernel
theorem dX12_ofOrder_106 : decode cX12_ofOrder 106 = .ok (.iconst 0, 1) := by decide +kernel
theorem dX12_ofOrder_107 : decode cX12_ofOrder 107 = .ok (.iadd, 1) := by decide +kernel
theorem dX12_ofOrder_108 : decode cX12_ofOrder 108 = .ok (.istore_n 3, 1) := by decide +kernel
theorem dX12_ofOrder_109 : decode cX12_ofOrder 109 = .ok (.iload_n 1, 1) := by decide +kernel
theorem dX12_ofOrder_110 : decode cX12_ofOrder 110 = .ok (.iconst 3, 1) := by decide +kernel
theorem dX12_ofOrder_111 : decode cX12_ofOrder 111 = .ok (.if_icmp .ne 25, 3) := by decide +kernel
theorem dX12_ofOrder_114 : decode cX12_ofOrder 114 = .ok (.iload_n 3, 1) := by decide +kernel
theorem dX12_ofOrder_115 : decode cX12_ofOrder 115 = .ok (.aload_n 0, 1) := by decide +kernel
theorem dX12_ofOrder_116 : decode cX12_ofOrder 116 = .ok (.getfield 28, 3) := by decide +kernel
theorem dX12_ofOrder_119 : decode cX12_ofOrder 119 = .ok (.iload 5, 2) := by decide +kernel
theorem dX12_ofOrder_121 : decode cX12_ofOrder 121 = .ok (.iaload, 1) := by decide +kernel
theorem dX12_ofOrder_122 : decode cX12_ofOrder 122 = .ok (.iload 5, 2) := by decide +kernel
theorem dX12_ofOrder_124 : decode cX12_ofOrder 124 = .ok (.iconst 1, 1) := by decide +kernel
theorem dX12_ofOrder_125 : decode cX12_ofOrder 125 = .ok (.iadd, 1) := by decide +kernel
theorem dX12_ofOrder_126 : decode cX12_ofOrder 126 = .ok (.if_icmp .ne 7, 3) := by decide +kernel
theorem dX12_ofOrder_129 : decode cX12_ofOrder 129 = .ok (.iconst 1, 1) := by decide +kernel
theorem dX12_ofOrder_130 : decode cX12_ofOrder 130 = .ok (.goto 4, 3) := by decide +kernel
theorem dX12_ofOrder_133 : decode cX12_ofOrder 133 = .ok (.iconst 0, 1) := by decide +kernel
theorem dX12_ofOrder_134 : decode cX12_ofOrder 134 = .ok (.iadd, 1) := by decide +kernel
theorem dX12_ofOrder_135 : decode cX12_ofOrder 135 = .ok (.istore_n 3, 1) := by decide +kernel
theorem dX12_ofOrder_136 : decode cX12_ofOrder 136 = .ok (.iconst 0, 1) := by decide +kernel
theorem dX12_ofOrder_137 : decode cX12_ofOrder 137 = .ok (.istore 7, 2) := by decide +kernel
theorem dX12_ofOrder_139 : decode cX12_ofOrder 139 = .ok (.iload 7, 2) := by decide +kernel
theorem dX12_ofOrder_141 : decode cX12_ofOrder 141 = .ok (.iload 5, 2) := by decide +kernel
theorem dX12_ofOrder_143 : decode cX12_ofOrder 143 = .ok (.if_icmp .ge 39, 3) := by decide +kernel
theorem dX12_ofOrder_146 : decode cX12_ofOrder 146 = .ok (.iload_n 1, 1) := by decide +kernel
theorem dX12_ofOrder_147 : decode cX12_ofOrder 147 = .ok (.iconst 1, 1) := by decide +kernel
theorem dX12_ofOrder_148 : decode cX12_ofOrder 148 = .ok (.if_icmp .ne 34, 3) := by decide +kernel
theorem dX12_ofOrder_151 : decode cX12_ofOrder 151 = .ok (.iload_n 3, 1) := by decide +kernel
theorem dX12_ofOrder_152 : decode cX12_ofOrder 152 = .ok (.aload_n 0, 1) := by decide +kernel
theorem dX12_ofOrder_153 : decode cX12_ofOrder 153 = .ok (.getfield 28, 3) := by decide +kernel
theorem dX12_ofOrder_156 : decode cX12_ofOrder 156 = .ok (.iload 7, 2) := by decide +kernel
theorem dX12_ofOrder_158 : decode cX12_ofOrder 158 = .ok (.iaload, 1) := by decide +kernel
theorem dX12_ofOrder_159 : decode cX12_ofOrder 159 = .ok (.aload_n 0, 1) := by decide +kernel
theorem dX12_ofOrder_160 : decode cX12_ofOrder 160 = .ok (.getfield 28, 3) := by decide +kernel
theorem dX12_ofOrder_163 : decode cX12_ofOrder 163 = .ok (.iload 5, 2) := by decide +kernel
theorem dX12_ofOrder_165 : decode cX12_ofOrder 165 = .ok (.iaload, 1) := by decide +kernel
theorem dX12_ofOrder_166 : decode cX12_ofOrder 166 = .ok (.if_icmp .le 7, 3) := by decide +kernel
theorem dX12_ofOrder_169 : decode cX12_ofOrder 169 = .ok (.iconst 1, 1) := by decide +kernel
theorem dX12_ofOrder_170 : decode cX12_ofOrder 170 = .ok (.goto 4, 3) := by decide +kernel
theorem dX12_ofOrder_173 : decode cX12_ofOrder 173 = .ok (.iconst 0, 1) := by decide +kernel
theorem dX12_ofOrder_174 : decode cX12_ofOrder 174 = .ok (.iadd, 1) := by decide +kernel
theorem dX12_ofOrder_175 : decode cX12_ofOrder 175 = .ok (.istore_n 3, 1) := by decide +kernel
theorem dX12_ofOrder_176 : decode cX12_ofOrder 176 = .ok (.iinc 7 1, 3) := by decide +kernel
theorem dX12_ofOrder_179 : decode cX12_ofOrder 179 = .ok (.goto (-40), 3) := by decide +kernel
theorem dX12_ofOrder_182 : decode cX12_ofOrder 182 = .ok (.iinc 5 1, 3) := by decide +kernel
theorem dX12_ofOrder_185 : decode cX12_ofOrder 185 = .ok (.goto (-172), 3) := by decide +kernel
theorem dX12_ofOrder_188 : decode cX12_ofOrder 188 = .ok (.iload_n 3, 1) := by decide +kernel
theorem dX12_ofOrder_189 : decode cX12_ofOrder 189 = .ok (.ireturn, 1) := by decide +kernel
theorem dX12_statisticOf_0 : decode cX12_statisticOf 0 = .ok (.iload_n 1, 1) := by decide +kernel
theorem dX12_statisticOf_1 : decode cX12_statisticOf 1 = .ok (.ifCond .ne 12, 3) := by decide +kernel
theorem dX12_statisticOf_4 : decode cX12_statisticOf 4 = .ok (.aload_n 0, 1) := by decide +kernel
theorem dX12_statisticOf_5 : decode cX12_statisticOf 5 = .ok (.iload_n 2, 1) := by decide +kernel
theorem dX12_statisticOf_6 : decode cX12_statisticOf 6 = .ok (.iload_n 3, 1) := by decide +kernel
theorem dX12_statisticOf_7 : decode cX12_statisticOf 7 = .ok (.invokevirtual 173, 3) := by decide +kernel
theorem dX12_statisticOf_10 : decode cX12_statisticOf 10 = .ok (.goto 28, 3) := by decide +kernel
theorem dX12_statisticOf_13 : decode cX12_statisticOf 13 = .ok (.iload_n 1, 1) := by decide +kernel
theorem dX12_statisticOf_14 : decode cX12_statisticOf 14 = .ok (.iconst 1, 1) := by decide +kernel
theorem dX12_statisticOf_15 : decode cX12_statisticOf 15 = .ok (.if_icmp .ne 17, 3) := by decide +kernel
theorem dX12_statisticOf_18 : decode cX12_statisticOf 18 = .ok (.iload_n 2, 1) := by decide +kernel
theorem dX12_statisticOf_19 : decode cX12_statisticOf 19 = .ok (.iload_n 3, 1) := by decide +kernel
theorem dX12_statisticOf_20 : decode cX12_statisticOf 20 = .ok (.iconst 2, 1) := by decide +kernel
theorem dX12_statisticOf_21 : decode cX12_statisticOf 21 = .ok (.aload_n 0, 1) := by decide +kernel
theorem dX12_statisticOf_22 : decode cX12_statisticOf 22 = .ok (.getfield 53, 3) := by decide +kernel
theorem dX12_statisticOf_25 : decode cX12_statisticOf 25 = .ok (.imul, 1) := by decide +kernel
theorem dX12_statisticOf_26 : decode cX12_statisticOf 26 = .ok (.invokestatic 170, 3) := by decide +kernel
theorem dX12_statisticOf_29 : decode cX12_statisticOf 29 = .ok (.goto 9, 3) := by decide +kernel
theorem dX12_statisticOf_32 : decode cX12_statisticOf 32 = .ok (.aload_n 0, 1) := by decide +kernel
theorem dX12_statisticOf_33 : decode cX12_statisticOf 33 = .ok (.iload_n 2, 1) := by decide +kernel
theorem dX12_statisticOf_34 : decode cX12_statisticOf 34 = .ok (.iload_n 3, 1) := by decide +kernel
theorem dX12_statisticOf_35 : decode cX12_statisticOf 35 = .ok (.invokevirtual 176, 3) := by decide +kernel
theorem dX12_statisticOf_38 : decode cX12_statisticOf 38 = .ok (.ireturn, 1) := by decide +kernel
theorem dX12_statistics_0 : decode cX12_statistics 0 = .ok (.aload_n 0, 1) := by decide +kernel
theorem dX12_statistics_1 : decode cX12_statistics 1 = .ok (.getfield 11, 3) := by decide +kernel
theorem dX12_statistics_4 : decode cX12_statistics 4 = .ok (.iload_n 1, 1) := by decide +kernel
theorem dX12_statistics_5 : decode cX12_statistics 5 = .ok (.aaload, 1) := by decide +kernel
theorem dX12_statistics_6 : decode cX12_statistics 6 = .ok (.arraylength, 1) := by decide +kernel
theorem dX12_statistics_7 : decode cX12_statistics 7 = .ok (.newarray .int, 2) := by decide +kernel
theorem dX12_statistics_9 : decode cX12_statistics 9 = .ok (.astore_n 3, 1) := by decide +kernel
theorem dX12_statistics_10 : decode cX12_statistics 10 = .ok (.iconst 0, 1) := by decide +kernel
theorem dX12_statistics_11 : decode cX12_statistics 11 = .ok (.istore 4, 2) := by decide +kernel
theorem dX12_statistics_13 : decode cX12_statistics 13 = .ok (.iload 4, 2) := by decide +kernel
theorem dX12_statistics_15 : decode cX12_statistics 15 = .ok (.aload_n 3, 1) := by decide +kernel
theorem dX12_statistics_16 : decode cX12_statistics 16 = .ok (.arraylength, 1) := by decide +kernel
theorem dX12_statistics_17 : decode cX12_statistics 17 = .ok (.if_icmp .ge 28, 3) := by decide +kernel
theorem dX12_statistics_20 : decode cX12_statistics 20 = .ok (.aload_n 3, 1) := by decide +kernel
theorem dX12_statistics_21 : decode cX12_statistics 21 = .ok (.iload 4, 2) := by decide +kernel
theorem dX12_statistics_23 : decode cX12_statistics 23 = .ok (.aload_n 0, 1) := by decide +kernel
theorem dX12_statistics_24 : decode cX12_statistics 24 = .ok (.iload_n 1, 1) := by decide +kernel
theorem dX12_statistics_25 : decode cX12_statistics 25 = .ok (.iload_n 2, 1) := by decide +kernel
theorem dX12_statistics_26 : decode cX12_statistics 26 = .ok (.aload_n 0, 1) := by decide +kernel
theorem dX12_statistics_27 : decode cX12_statistics 27 = .ok (.getfield 11, 3) := by decide +kernel
theorem dX12_statistics_30 : decode cX12_statistics 30 = .ok (.iload_n 1, 1) := by decide +kernel
theorem dX12_statistics_31 : decode cX12_statistics 31 = .ok (.aaload, 1) := by decide +kernel
theorem dX12_statistics_32 : decode cX12_statistics 32 = .ok (.iload 4, 2) := by decide +kernel
theorem dX12_statistics_34 : decode cX12_statistics 34 = .ok (.iaload, 1) := by decide +kernel
theorem dX12_statistics_35 : decode cX12_statistics 35 = .ok (.invokevirtual 179, 3) := by decide +kernel
theorem dX12_statistics_38 : decode cX12_statistics 38 = .ok (.iastore, 1) := by decide +kernel
theorem dX12_statistics_39 : decode cX12_statistics 39 = .ok (.iinc 4 1, 3) := by decide +kernel
theorem dX12_statistics_42 : decode cX12_statistics 42 = .ok (.goto (-29), 3) := by decide +kernel
theorem dX12_statistics_45 : decode cX12_statistics 45 = .ok (.aload_n 3, 1) := by decide +kernel
theorem dX12_statistics_46 : decode cX12_statistics 46 = .ok (.areturn, 1) := by decide +kernel
theorem dX12_sign_0 : decode cX12_sign 0 = .ok (.iload_n 0, 1) := by decide +kernel
theorem dX12_sign_1 : decode cX12_sign 1 = .ok (.iconst 2, 1) := by decide +kernel
theorem dX12_sign_2 : decode cX12_sign 2 = .ok (.irem, 1) := by decide +kernel
theorem dX12_sign_3 : decode cX12_sign 3 = .ok (.ifCond .ne 7, 3) := by decide +kernel
theorem dX12_sign_6 : decode cX12_sign 6 = .ok (.iconst 1, 1) := by decide +kernel
theorem dX12_sign_7 : decode cX12_sign 7 = .ok (.goto 4, 3) := by decide +kernel
theorem dX12_sign_10 : decode cX12_sign 10 = .ok (.iconst (-1), 1) := by decide +kernel
theorem dX12_sign_11 : decode cX12_sign 11 = .ok (.ireturn, 1) := by decide +kernel
theorem dX12_size_0 : decode cX12_size 0 = .ok (.aload_n 0, 1) := by decide +kernel
theorem dX12_size_1 : decode cX12_size 1 = .ok (.iload_n 1, 1) := by decide +kernel
theorem dX12_size_2 : decode cX12_size 2 = .ok (.iconst 1, 1) := by decide +kernel
theorem dX12_size_3 : decode cX12_size 3 = .ok (.bipush 6, 2) := by decide +kernel
theorem dX12_size_5 : decode cX12_size 5 = .ok (.invokestatic 182, 3) := by decide +kernel
theorem dX12_size_8 : decode cX12_size 8 = .ok (.ifCond .ne 7, 3) := by decide +kernel
theorem dX12_size_11 : decode cX12_size 11 = .ok (.iconst 1, 1) := by decide +kernel
theorem dX12_size_12 : decode cX12_size 12 = .ok (.goto 4, 3) := by decide +kernel
theorem dX12_size_15 : decode cX12_size 15 = .ok (.iconst 0, 1) := by decide +kernel
theorem dX12_size_16 : decode cX12_size 16 = .ok (.iconst 1, 1) := by decide +kernel
theorem dX12_size_17 : decode cX12_size 17 = .ok (.invokevirtual 186, 3) := by decide +kernel
theorem dX12_size_20 : decode cX12_size 20 = .ok (.ifCond .eq 5, 3) := by decide +kernel
theorem dX12_size_23 : decode cX12_size 23 = .ok (.iconst 0, 1) := by decide +kernel
theorem dX12_size_24 : decode cX12_size 24 = .ok (.ireturn, 1) := by decide +kernel
theorem dX12_size_25 : decode cX12_size 25 = .ok (.aload_n 0, 1) := by decide +kernel
theorem dX12_size_26 : decode cX12_size 26 = .ok (.getfield 22, 3) := by decide +kernel
theorem dX12_size_29 : decode cX12_size 29 = .ok (.invokevirtual 134, 3) := by decide +kernel
theorem dX12_size_32 : decode cX12_size 32 = .ok (.istore_n 2, 1) := by decide +kernel
theorem dX12_size_33 : decode cX12_size 33 = .ok (.aload_n 0, 1) := by decide +kernel
theorem dX12_size_34 : decode cX12_size 34 = .ok (.getfield 22, 3) := by decide +kernel
theorem dX12_size_37 : decode cX12_size 37 = .ok (.invokevirtual 189, 3) := by decide +kernel
theorem dX12_size_40 : decode cX12_size 40 = .ok (.aload_n 0, 1) := by decide +kernel
theorem dX12_size_41 : decode cX12_size 41 = .ok (.iload_n 1, 1) := by decide +kernel
theorem dX12_size_42 : decode cX12_size 42 = .ok (.invokevirtual 37, 3) := by decide +kernel
theorem dX12_size_45 : decode cX12_size 45 = .ok (.iload_n 2, 1) := by decide +kernel
theorem dX12_size_46 : decode cX12_size 46 = .ok (.ireturn, 1) := by decide +kernel
theorem dX12_map_0 : decode cX12_map 0 = .ok (.aload_n 0, 1) := by decide +kernel
theorem dX12_map_1 : decode cX12_map 1 = .ok (.iload_n 1, 1) := by decide +kernel
theorem dX12_map_2 : decode cX12_map 2 = .ok (.iconst 0, 1) := by decide +kernel
theorem dX12_map_3 : decode cX12_map 3 = .ok (.bipush 10, 2) := by decide +kernel
theorem dX12_map_5 : decode cX12_map 5 = .ok (.invokestatic 182, 3) := by decide +kernel
theorem dX12_map_8 : decode cX12_map 8 = .ok (.ifCond .ne 7, 3) := by decide +kernel
theorem dX12_map_11 : decode cX12_map 11 = .ok (.iconst 1, 1) := by decide +kernel
theorem dX12_map_12 : decode cX12_map 12 = .ok (.goto 4, 3) := by decide +kernel
theorem dX12_map_15 : decode cX12_map 15 = .ok (.iconst 0, 1) := by decide +kernel
theorem dX12_map_16 : decode cX12_map 16 = .ok (.iconst 1, 1) := by decide +kernel
theorem dX12_map_17 : decode cX12_map 17 = .ok (.invokevirtual 186, 3) := by decide +kernel
theorem dX12_map_20 : decode cX12_map 20 = .ok (.ifCond .ne 28, 3) := by decide +kernel
theorem dX12_map_23 : decode cX12_map 23 = .ok (.aload_n 0, 1) := by decide +kernel
theorem dX12_map_24 : decode cX12_map 24 = .ok (.aload_n 0, 1) := by decide +kernel
theorem dX12_map_25 : decode cX12_map 25 = .ok (.getfield 18, 3) := by decide +kernel
theorem dX12_map_28 : decode cX12_map 28 = .ok (.invokevirtual 134, 3) := by decide +kernel
theorem dX12_map_31 : decode cX12_map 31 = .ok (.bipush 8, 2) := by decide +kernel
theorem dX12_map_33 : decode cX12_map 33 = .ok (.if_icmp .ne 7, 3) := by decide +kernel
theorem dX12_map_36 : decode cX12_map 36 = .ok (.iconst 1, 1) := by decide +kernel
theorem dX12_map_37 : decode cX12_map 37 = .ok (.goto 4, 3) := by decide +kernel
theorem dX12_map_40 : decode cX12_map 40 = .ok (.iconst 0, 1) := by decide +kernel
theorem dX12_map_41 : decode cX12_map 41 = .ok (.iconst 2, 1) := by decide +kernel
theorem dX12_map_42 : decode cX12_map 42 = .ok (.invokevirtual 45, 3) := by decide +kernel
theorem dX12_map_45 : decode cX12_map 45 = .ok (.ifCond .eq 5, 3) := by decide +kernel
theorem dX12_map_48 : decode cX12_map 48 = .ok (.iconst 0, 1) := by decide +kernel
theorem dX12_map_49 : decode cX12_map 49 = .ok (.ireturn, 1) := by decide +kernel
theorem dX12_map_50 : decode cX12_map 50 = .ok (.new 15, 3) := by decide +kernel
theorem dX12_map_53 : decode cX12_map 53 = .ok (.dup, 1) := by decide +kernel
theorem dX12_map_54 : decode cX12_map 54 = .ok (.invokespecial 17, 3) := by decide +kernel
theorem dX12_map_57 : decode cX12_map 57 = .ok (.astore_n 2, 1) := by decide +kernel
theorem dX12_map_58 : decode cX12_map 58 = .ok (.aload_n 2, 1) := by decide +kernel
theorem dX12_map_59 : decode cX12_map 59 = .ok (.iload_n 1, 1) := by decide +kernel
theorem dX12_map_60 : decode cX12_map 60 = .ok (.invokestatic 192, 3) := by decide +kernel
theorem dX12_map_63 : decode cX12_map 63 = .ok (.invokevirtual 196, 3) := by decide +kernel
theorem dX12_map_66 : decode cX12_map 66 = .ok (.pop, 1) := by decide +kernel
theorem dX12_map_67 : decode cX12_map 67 = .ok (.aload_n 0, 1) := by decide +kernel
theorem dX12_map_68 : decode cX12_map 68 = .ok (.getfield 18, 3) := by decide +kernel
theorem dX12_map_71 : decode cX12_map 71 = .ok (.aload_n 2, 1) := by decide +kernel
theorem dX12_map_72 : decode cX12_map 72 = .ok (.invokevirtual 196, 3) := by decide +kernel
theorem dX12_map_75 : decode cX12_map 75 = .ok (.pop, 1) := by decide +kernel
theorem dX12_map_76 : decode cX12_map 76 = .ok (.aload_n 0, 1) := by decide +kernel
theorem dX12_map_77 : decode cX12_map 77 = .ok (.getfield 18, 3) := by decide +kernel
theorem dX12_map_80 : decode cX12_map 80 = .ok (.invokevirtual 134, 3) := by decide +kernel
theorem dX12_map_83 : decode cX12_map 83 = .ok (.iconst 1, 1) := by decide +kernel
theorem dX12_map_84 : decode cX12_map 84 = .ok (.isub, 1) := by decide +kernel
theorem dX12_map_85 : decode cX12_map 85 = .ok (.ireturn, 1) := by decide +kernel
theorem dX12_isNoMap_0 : decode cX12_isNoMap 0 = .ok (.iload_n 1, 1) := by decide +kernel
theorem dX12_isNoMap_1 : decode cX12_isNoMap 1 = .ok (.iconst 0, 1) := by decide +kernel
theorem dX12_isNoMap_2 : decode cX12_isNoMap 2 = .ok (.aload_n 0, 1) := by decide +kernel
theorem dX12_isNoMap_3 : decode cX12_isNoMap 3 = .ok (.getfield 18, 3) := by decide +kernel
theorem dX12_isNoMap_6 : decode cX12_isNoMap 6 = .ok (.invokevirtual 134, 3) := by decide +kernel
theorem dX12_isNoMap_9 : decode cX12_isNoMap 9 = .ok (.iconst 1, 1) := by decide +kernel
theorem dX12_isNoMap_10 : decode cX12_isNoMap 10 = .ok (.isub, 1) := by decide +kernel
theorem dX12_isNoMap_11 : decode cX12_isNoMap 11 = .ok (.invokestatic 182, 3) := by decide +kernel
theorem dX12_isNoMap_14 : decode cX12_isNoMap 14 = .ok (.ifCond .ne 7, 3) := by decide +kernel
theorem dX12_isNoMap_17 : decode cX12_isNoMap 17 = .ok (.iconst 1, 1) := by decide +kernel
theorem dX12_isNoMap_18 : decode cX12_isNoMap 18 = .ok (.goto 4, 3) := by decide +kernel
theorem dX12_isNoMap_21 : decode cX12_isNoMap 21 = .ok (.iconst 0, 1) := by decide +kernel
theorem dX12_isNoMap_22 : decode cX12_isNoMap 22 = .ok (.ireturn, 1) := by decide +kernel
theorem dX12_then_0 : decode cX12_then 0 = .ok (.aload_n 0, 1) := by decide +kernel
theorem dX12_then_1 : decode cX12_then 1 = .ok (.aload_n 0, 1) := by decide +kernel
theorem dX12_then_2 : decode cX12_then 2 = .ok (.iload_n 1, 1) := by decide +kernel
theorem dX12_then_3 : decode cX12_then 3 = .ok (.invokevirtual 205, 3) := by decide +kernel
theorem dX12_then_6 : decode cX12_then 6 = .ok (.iconst 1, 1) := by decide +kernel
theorem dX12_then_7 : decode cX12_then 7 = .ok (.invokevirtual 186, 3) := by decide +kernel
theorem dX12_then_10 : decode cX12_then 10 = .ok (.ifCond .ne 26, 3) := by decide +kernel
theorem dX12_then_13 : decode cX12_then 13 = .ok (.aload_n 0, 1) := by decide +kernel
theorem dX12_then_14 : decode cX12_then 14 = .ok (.iload_n 2, 1) := by decide +kernel
theorem dX12_then_15 : decode cX12_then 15 = .ok (.iconst 0, 1) := by decide +kernel
theorem dX12_then_16 : decode cX12_then 16 = .ok (.bipush 10, 2) := by decide +kernel
theorem dX12_then_18 : decode cX12_then 18 = .ok (.invokestatic 182, 3) := by decide +kernel
theorem dX12_then_21 : decode cX12_then 21 = .ok (.ifCond .ne 7, 3) := by decide +kernel
theorem dX12_then_24 : decode cX12_then 24 = .ok (.iconst 1, 1) := by decide +kernel
theorem dX12_then_25 : decode cX12_then 25 = .ok (.goto 4, 3) := by decide +kernel
theorem dX12_then_28 : decode cX12_then 28 = .ok (.iconst 0, 1) := by decide +kernel
theorem dX12_then_29 : decode cX12_then 29 = .ok (.iconst 2, 1) := by decide +kernel
theorem dX12_then_30 : decode cX12_then 30 = .ok (.invokevirtual 45, 3) := by decide +kernel
theorem dX12_then_33 : decode cX12_then 33 = .ok (.ifCond .eq 5, 3) := by decide +kernel
theorem dX12_then_36 : decode cX12_then 36 = .ok (.iconst 0, 1) := by decide +kernel
theorem dX12_then_37 : decode cX12_then 37 = .ok (.ireturn, 1) := by decide +kernel
theorem dX12_then_38 : decode cX12_then 38 = .ok (.aload_n 0, 1) := by decide +kernel
theorem dX12_then_39 : decode cX12_then 39 = .ok (.getfield 18, 3) := by decide +kernel
theorem dX12_then_42 : decode cX12_then 42 = .ok (.iload_n 1, 1) := by decide +kernel
theorem dX12_then_43 : decode cX12_then 43 = .ok (.invokevirtual 122, 3) := by decide +kernel
theorem dX12_then_46 : decode cX12_then 46 = .ok (.checkcast 15, 3) := by decide +kernel
theorem dX12_then_49 : decode cX12_then 49 = .ok (.astore_n 3, 1) := by decide +kernel
theorem dX12_then_50 : decode cX12_then 50 = .ok (.aload_n 0, 1) := by decide +kernel
theorem dX12_then_51 : decode cX12_then 51 = .ok (.aload_n 3, 1) := by decide +kernel
theorem dX12_then_52 : decode cX12_then 52 = .ok (.invokevirtual 134, 3) := by decide +kernel
theorem dX12_then_55 : decode cX12_then 55 = .ok (.bipush 6, 2) := by decide +kernel
theorem dX12_then_57 : decode cX12_then 57 = .ok (.if_icmp .eq 24, 3) := by decide +kernel
theorem dX12_then_60 : decode cX12_then 60 = .ok (.aload_n 0, 1) := by decide +kernel
theorem dX12_then_61 : decode cX12_then 61 = .ok (.iload_n 1, 1) := by decide +kernel
theorem dX12_then_62 : decode cX12_then 62 = .ok (.invokevirtual 209, 3) := by decide +kernel
theorem dX12_then_65 : decode cX12_then 65 = .ok (.ifCond .ne 16, 3) := by decide +kernel
theorem dX12_then_68 : decode cX12_then 68 = .ok (.getstatic 119, 3) := by decide +kernel
theorem dX12_then_71 : decode cX12_then 71 = .ok (.iload_n 2, 1) := by decide +kernel
theorem dX12_then_72 : decode cX12_then 72 = .ok (.iaload, 1) := by decide +kernel
theorem dX12_then_73 : decode cX12_then 73 = .ok (.aload_n 0, 1) := by decide +kernel
theorem dX12_then_74 : decode cX12_then 74 = .ok (.iload_n 1, 1) := by decide +kernel
theorem dX12_then_75 : decode cX12_then 75 = .ok (.invokevirtual 139, 3) := by decide +kernel
theorem dX12_then_78 : decode cX12_then 78 = .ok (.if_icmp .eq 7, 3) := by decide +kernel
theorem dX12_then_81 : decode cX12_then 81 = .ok (.iconst 1, 1) := by decide +kernel
theorem dX12_then_82 : decode cX12_then 82 = .ok (.goto 4, 3) := by decide +kernel
theorem dX12_then_85 : decode cX12_then 85 = .ok (.iconst 0, 1) := by decide +kernel
theorem dX12_then_86 : decode cX12_then 86 = .ok (.iconst 3, 1) := by decide +kernel
theorem dX12_then_87 : decode cX12_then 87 = .ok (.invokevirtual 45, 3) := by decide +kernel
theorem dX12_then_90 : decode cX12_then 90 = .ok (.ifCond .eq 5, 3) := by decide +kernel
theorem dX12_then_93 : decode cX12_then 93 = .ok (.iconst 0, 1) := by decide +kernel
theorem dX12_then_94 : decode cX12_then 94 = .ok (.ireturn, 1) := by decide +kernel
theorem dX12_then_95 : decode cX12_then 95 = .ok (.aload_n 3, 1) := by decide +kernel
theorem dX12_then_96 : decode cX12_then 96 = .ok (.iload_n 2, 1) := by decide +kernel
theorem dX12_then_97 : decode cX12_then 97 = .ok (.invokestatic 192, 3) := by decide +kernel
theorem dX12_then_100 : decode cX12_then 100 = .ok (.invokevirtual 196, 3) := by decide +kernel
theorem dX12_then_103 : decode cX12_then 103 = .ok (.pop, 1) := by decide +kernel
theorem dX12_then_104 : decode cX12_then 104 = .ok (.aload_n 3, 1) := by decide +kernel
theorem dX12_then_105 : decode cX12_then 105 = .ok (.invokevirtual 134, 3) := by decide +kernel
theorem dX12_then_108 : decode cX12_then 108 = .ok (.ireturn, 1) := by decide +kernel
theorem dX12_isNoFamily_0 : decode cX12_isNoFamily 0 = .ok (.iload_n 0, 1) := by decide +kernel
theorem dX12_isNoFamily_1 : decode cX12_isNoFamily 1 = .ok (.iconst 0, 1) := by decide +kernel
theorem dX12_isNoFamily_2 : decode cX12_isNoFamily 2 = .ok (.iconst 2, 1) := by decide +kernel
theorem dX12_isNoFamily_3 : decode cX12_isNoFamily 3 = .ok (.invokestatic 182, 3) := by decide +kernel
theorem dX12_isNoFamily_6 : decode cX12_isNoFamily 6 = .ok (.ifCond .ne 7, 3) := by decide +kernel
theorem dX12_isNoFamily_9 : decode cX12_isNoFamily 9 = .ok (.iconst 1, 1) := by decide +kernel
theorem dX12_isNoFamily_10 : decode cX12_isNoFamily 10 = .ok (.goto 4, 3) := by decide +kernel
theorem dX12_isNoFamily_13 : decode cX12_isNoFamily 13 = .ok (.iconst 0, 1) := by decide +kernel
theorem dX12_isNoFamily_14 : decode cX12_isNoFamily 14 = .ok (.ireturn, 1) := by decide +kernel
theorem dX12_isNoStatistic_0 : decode cX12_isNoStatistic 0 = .ok (.iload_n 0, 1) := by decide +kernel
theorem dX12_isNoStatistic_1 : decode cX12_isNoStatistic 1 = .ok (.iconst 0, 1) := by decide +kernel
theorem dX12_isNoStatistic_2 : decode cX12_isNoStatistic 2 = .ok (.iconst 3, 1) := by decide +kernel
theorem dX12_isNoStatistic_3 : decode cX12_isNoStatistic 3 = .ok (.invokestatic 182, 3) := by decide +kernel
theorem dX12_isNoStatistic_6 : decode cX12_isNoStatistic 6 = .ok (.ifCond .ne 7, 3) := by decide +kernel
theorem dX12_isNoStatistic_9 : decode cX12_isNoStatistic 9 = .ok (.iconst 1, 1) := by decide +kernel
theorem dX12_isNoStatistic_10 : decode cX12_isNoStatistic 10 = .ok (.goto 4, 3) := by decide +kernel
theorem dX12_isNoStatistic_13 : decode cX12_isNoStatistic 13 = .ok (.iconst 0, 1) := by decide +kernel
theorem dX12_isNoStatistic_14 : decode cX12_isNoStatistic 14 = .ok (.ireturn, 1) := by decide +kernel
theorem dX12_walker_0 : decode cX12_walker 0 = .ok (.aload_n 0, 1) := by decide +kernel
theorem dX12_walker_1 : decode cX12_walker 1 = .ok (.iload_n 1, 1) := by decide +kernel
theorem dX12_walker_2 : decode cX12_walker 2 = .ok (.invokestatic 212, 3) := by decide +kernel
theorem dX12_walker_5 : decode cX12_walker 5 = .ok (.iconst 1, 1) := by decide +kernel
theorem dX12_walker_6 : decode cX12_walker 6 = .ok (.invokevirtual 186, 3) := by decide +kernel
theorem dX12_walker_9 : decode cX12_walker 9 = .ok (.ifCond .ne 50, 3) := by decide +kernel
theorem dX12_walker_12 : decode cX12_walker 12 = .ok (.aload_n 0, 1) := by decide +kernel
theorem dX12_walker_13 : decode cX12_walker 13 = .ok (.aload_n 0, 1) := by decide +kernel
theorem dX12_walker_14 : decode cX12_walker 14 = .ok (.iload_n 1, 1) := by decide +kernel
theorem dX12_walker_15 : decode cX12_walker 15 = .ok (.iload_n 2, 1) := by decide +kernel
theorem dX12_walker_16 : decode cX12_walker 16 = .ok (.invokevirtual 162, 3) := by decide +kernel
theorem dX12_walker_19 : decode cX12_walker 19 = .ok (.iconst (-1), 1) := by decide +kernel
theorem dX12_walker_20 : decode cX12_walker 20 = .ok (.if_icmp .ne 7, 3) := by decide +kernel
theorem dX12_walker_23 : decode cX12_walker 23 = .ok (.iconst 1, 1) := by decide +kernel
theorem dX12_walker_24 : decode cX12_walker 24 = .ok (.goto 4, 3) := by decide +kernel
theorem dX12_walker_27 : decode cX12_walker 27 = .ok (.iconst 0, 1) := by decide +kernel
theorem dX12_walker_28 : decode cX12_walker 28 = .ok (.iconst 2, 1) := by decide +kernel
theorem dX12_walker_29 : decode cX12_walker 29 = .ok (.invokevirtual 45, 3) := by decide +kernel
theorem dX12_walker_32 : decode cX12_walker 32 = .ok (.ifCond .ne 27, 3) := by decide +kernel
theorem dX12_walker_35 : decode cX12_walker 35 = .ok (.aload_n 0, 1) := by decide +kernel
theorem dX12_walker_36 : decode cX12_walker 36 = .ok (.aload_n 0, 1) := by decide +kernel
theorem dX12_walker_37 : decode cX12_walker 37 = .ok (.getfield 22, 3) := by decide +kernel
theorem dX12_walker_40 : decode cX12_walker 40 = .ok (.invokevirtual 134, 3) := by decide +kernel
theorem dX12_walker_43 : decode cX12_walker 43 = .ok (.iconst 4, 1) := by decide +kernel
theorem dX12_walker_44 : decode cX12_walker 44 = .ok (.if_icmp .ne 7, 3) := by decide +kernel
theorem dX12_walker_47 : decode cX12_walker 47 = .ok (.iconst 1, 1) := by decide +kernel
theorem dX12_walker_48 : decode cX12_walker 48 = .ok (.goto 4, 3) := by decide +kernel
theorem dX12_walker_51 : decode cX12_walker 51 = .ok (.iconst 0, 1) := by decide +kernel
theorem dX12_walker_52 : decode cX12_walker 52 = .ok (.iconst 3, 1) := by decide +kernel
theorem dX12_walker_53 : decode cX12_walker 53 = .ok (.invokevirtual 45, 3) := by decide +kernel
theorem dX12_walker_56 : decode cX12_walker 56 = .ok (.ifCond .eq 5, 3) := by decide +kernel
theorem dX12_walker_59 : decode cX12_walker 59 = .ok (.iconst 0, 1) := by decide +kernel
theorem dX12_walker_60 : decode cX12_walker 60 = .ok (.ireturn, 1) := by decide +kernel
theorem dX12_walker_61 : decode cX12_walker 61 = .ok (.aload_n 0, 1) := by decide +kernel
theorem dX12_walker_62 : decode cX12_walker 62 = .ok (.getfield 22, 3) := by decide +kernel
theorem dX12_walker_65 : decode cX12_walker 65 = .ok (.new 215, 3) := by decide +kernel
theorem dX12_walker_68 : decode cX12_walker 68 = .ok (.dup, 1) := by decide +kernel
theorem dX12_walker_69 : decode cX12_walker 69 = .ok (.iload_n 1, 1) := by decide +kernel
theorem dX12_walker_70 : decode cX12_walker 70 = .ok (.iload_n 2, 1) := by decide +kernel
theorem dX12_walker_71 : decode cX12_walker 71 = .ok (.invokespecial 217, 3) := by decide +kernel
theorem dX12_walker_74 : decode cX12_walker 74 = .ok (.invokevirtual 196, 3) := by decide +kernel
theorem dX12_walker_77 : decode cX12_walker 77 = .ok (.pop, 1) := by decide +kernel
theorem dX12_walker_78 : decode cX12_walker 78 = .ok (.aload_n 0, 1) := by decide +kernel
theorem dX12_walker_79 : decode cX12_walker 79 = .ok (.getfield 22, 3) := by decide +kernel
theorem dX12_walker_82 : decode cX12_walker 82 = .ok (.invokevirtual 134, 3) := by decide +kernel
theorem dX12_walker_85 : decode cX12_walker 85 = .ok (.iconst 1, 1) := by decide +kernel
theorem dX12_walker_86 : decode cX12_walker 86 = .ok (.isub, 1) := by decide +kernel
theorem dX12_walker_87 : decode cX12_walker 87 = .ok (.ireturn, 1) := by decide +kernel
theorem dX12_claim_0 : decode cX12_claim 0 = .ok (.aload_n 0, 1) := by decide +kernel
theorem dX12_claim_1 : decode cX12_claim 1 = .ok (.aload_n 0, 1) := by decide +kernel
theorem dX12_claim_2 : decode cX12_claim 2 = .ok (.iload_n 1, 1) := by decide +kernel
theorem dX12_claim_3 : decode cX12_claim 3 = .ok (.invokevirtual 205, 3) := by decide +kernel
theorem dX12_claim_6 : decode cX12_claim 6 = .ok (.iconst 1, 1) := by decide +kernel
theorem dX12_claim_7 : decode cX12_claim 7 = .ok (.invokevirtual 186, 3) := by decide +kernel
theorem dX12_claim_10 : decode cX12_claim 10 = .ok (.ifCond .ne 55, 3) := by decide +kernel
theorem dX12_claim_13 : decode cX12_claim 13 = .ok (.aload_n 0, 1) := by decide +kernel
theorem dX12_claim_14 : decode cX12_claim 14 = .ok (.iload_n 2, 1) := by decide +kernel
theorem dX12_claim_15 : decode cX12_claim 15 = .ok (.invokestatic 238, 3) := by decide +kernel
theorem dX12_claim_18 : decode cX12_claim 18 = .ok (.ifCond .ne 10, 3) := by decide +kernel
theorem dX12_claim_21 : decode cX12_claim 21 = .ok (.iload_n 3, 1) := by decide +kernel
theorem dX12_claim_22 : decode cX12_claim 22 = .ok (.invokestatic 238, 3) := by decide +kernel
theorem dX12_claim_25 : decode cX12_claim 25 = .ok (.ifCond .eq 7, 3) := by decide +kernel
theorem dX12_claim_28 : decode cX12_claim 28 = .ok (.iconst 1, 1) := by decide +kernel
theorem dX12_claim_29 : decode cX12_claim 29 = .ok (.goto 4, 3) := by decide +kernel
theorem dX12_claim_32 : decode cX12_claim 32 = .ok (.iconst 0, 1) := by decide +kernel
theorem dX12_claim_33 : decode cX12_claim 33 = .ok (.iconst 2, 1) := by decide +kernel
theorem dX12_claim_34 : decode cX12_claim 34 = .ok (.invokevirtual 45, 3) := by decide +kernel
theorem dX12_claim_37 : decode cX12_claim 37 = .ok (.ifCond .ne 28, 3) := by decide +kernel
theorem dX12_claim_40 : decode cX12_claim 40 = .ok (.aload_n 0, 1) := by decide +kernel
theorem dX12_claim_41 : decode cX12_claim 41 = .ok (.aload_n 0, 1) := by decide +kernel
theorem dX12_claim_42 : decode cX12_claim 42 = .ok (.getfield 25, 3) := by decide +kernel
theorem dX12_claim_45 : decode cX12_claim 45 = .ok (.invokevirtual 134, 3) := by decide +kernel
theorem dX12_claim_48 : decode cX12_claim 48 = .ok (.bipush 8, 2) := by decide +kernel
theorem dX12_claim_50 : decode cX12_claim 50 = .ok (.if_icmp .ne 7, 3) := by decide +kernel
theorem dX12_claim_53 : decode cX12_claim 53 = .ok (.iconst 1, 1) := by decide +kernel
theorem dX12_claim_54 : decode cX12_claim 54 = .ok (.goto 4, 3) := by decide +kernel
theorem dX12_claim_57 : decode cX12_claim 57 = .ok (.iconst 0, 1) := by decide +kernel
theorem dX12_claim_58 : decode cX12_claim 58 = .ok (.iconst 3, 1) := by decide +kernel
theorem dX12_claim_59 : decode cX12_claim 59 = .ok (.invokevirtual 45, 3) := by decide +kernel
theorem dX12_claim_62 : decode cX12_claim 62 = .ok (.ifCond .eq 5, 3) := by decide +kernel
theorem dX12_claim_65 : decode cX12_claim 65 = .ok (.iconst 0, 1) := by decide +kernel
theorem dX12_claim_66 : decode cX12_claim 66 = .ok (.ireturn, 1) := by decide +kernel
theorem dX12_claim_67 : decode cX12_claim 67 = .ok (.aload_n 0, 1) := by decide +kernel
theorem dX12_claim_68 : decode cX12_claim 68 = .ok (.getfield 25, 3) := by decide +kernel
theorem dX12_claim_71 : decode cX12_claim 71 = .ok (.new 200, 3) := by decide +kernel
theorem dX12_claim_74 : decode cX12_claim 74 = .ok (.dup, 1) := by decide +kernel
theorem dX12_claim_75 : decode cX12_claim 75 = .ok (.iload_n 1, 1) := by decide +kernel
theorem dX12_claim_76 : decode cX12_claim 76 = .ok (.iload_n 2, 1) := by decide +kernel
theorem dX12_claim_77 : decode cX12_claim 77 = .ok (.iload_n 3, 1) := by decide +kernel
theorem dX12_claim_78 : decode cX12_claim 78 = .ok (.invokespecial 241, 3) := by decide +kernel
theorem dX12_claim_81 : decode cX12_claim 81 = .ok (.invokevirtual 196, 3) := by decide +kernel
theorem dX12_claim_84 : decode cX12_claim 84 = .ok (.pop, 1) := by decide +kernel
theorem dX12_claim_85 : decode cX12_claim 85 = .ok (.aload_n 0, 1) := by decide +kernel
theorem dX12_claim_86 : decode cX12_claim 86 = .ok (.aload_n 0, 1) := by decide +kernel
theorem dX12_claim_87 : decode cX12_claim 87 = .ok (.getfield 25, 3) := by decide +kernel
theorem dX12_claim_90 : decode cX12_claim 90 = .ok (.aload_n 0, 1) := by decide +kernel
theorem dX12_claim_91 : decode cX12_claim 91 = .ok (.getfield 25, 3) := by decide +kernel
theorem dX12_claim_94 : decode cX12_claim 94 = .ok (.invokevirtual 134, 3) := by decide +kernel
theorem dX12_claim_97 : decode cX12_claim 97 = .ok (.iconst 1, 1) := by decide +kernel
theorem dX12_claim_98 : decode cX12_claim 98 = .ok (.isub, 1) := by decide +kernel
theorem dX12_claim_99 : decode cX12_claim 99 = .ok (.invokevirtual 122, 3) := by decide +kernel
theorem dX12_claim_102 : decode cX12_claim 102 = .ok (.checkcast 200, 3) := by decide +kernel
theorem dX12_claim_105 : decode cX12_claim 105 = .ok (.invokevirtual 244, 3) := by decide +kernel
theorem dX12_claim_108 : decode cX12_claim 108 = .ok (.pop, 1) := by decide +kernel
theorem dX12_claim_109 : decode cX12_claim 109 = .ok (.aload_n 0, 1) := by decide +kernel
theorem dX12_claim_110 : decode cX12_claim 110 = .ok (.getfield 25, 3) := by decide +kernel
theorem dX12_claim_113 : decode cX12_claim 113 = .ok (.invokevirtual 134, 3) := by decide +kernel
theorem dX12_claim_116 : decode cX12_claim 116 = .ok (.iconst 1, 1) := by decide +kernel
theorem dX12_claim_117 : decode cX12_claim 117 = .ok (.isub, 1) := by decide +kernel
theorem dX12_claim_118 : decode cX12_claim 118 = .ok (.ireturn, 1) := by decide +kernel
theorem dX12_send_0 : decode cX12_send 0 = .ok (.aload_n 0, 1) := by decide +kernel
theorem dX12_send_1 : decode cX12_send 1 = .ok (.iload_n 1, 1) := by decide +kernel
theorem dX12_send_2 : decode cX12_send 2 = .ok (.iconst 0, 1) := by decide +kernel
theorem dX12_send_3 : decode cX12_send 3 = .ok (.aload_n 0, 1) := by decide +kernel
theorem dX12_send_4 : decode cX12_send 4 = .ok (.getfield 22, 3) := by decide +kernel
theorem dX12_send_7 : decode cX12_send 7 = .ok (.invokevirtual 134, 3) := by decide +kernel
theorem dX12_send_10 : decode cX12_send 10 = .ok (.iconst 1, 1) := by decide +kernel
theorem dX12_send_11 : decode cX12_send 11 = .ok (.isub, 1) := by decide +kernel
theorem dX12_send_12 : decode cX12_send 12 = .ok (.invokestatic 182, 3) := by decide +kernel
theorem dX12_send_15 : decode cX12_send 15 = .ok (.ifCond .eq 11, 3) := by decide +kernel
theorem dX12_send_18 : decode cX12_send 18 = .ok (.aload_n 0, 1) := by decide +kernel
theorem dX12_send_19 : decode cX12_send 19 = .ok (.iload_n 2, 1) := by decide +kernel
theorem dX12_send_20 : decode cX12_send 20 = .ok (.invokevirtual 205, 3) := by decide +kernel
theorem dX12_send_23 : decode cX12_send 23 = .ok (.ifCond .eq 7, 3) := by decide +kernel
theorem dX12_send_26 : decode cX12_send 26 = .ok (.iconst 1, 1) := by decide +kernel
theorem dX12_send_27 : decode cX12_send 27 = .ok (.goto 4, 3) := by decide +kernel
theorem dX12_send_30 : decode cX12_send 30 = .ok (.iconst 0, 1) := by decide +kernel
theorem dX12_send_31 : decode cX12_send 31 = .ok (.iconst 1, 1) := by decide +kernel
theorem dX12_send_32 : decode cX12_send 32 = .ok (.invokevirtual 186, 3) := by decide +kernel
theorem dX12_send_35 : decode cX12_send 35 = .ok (.ifCond .ne 26, 3) := by decide +kernel
theorem dX12_send_38 : decode cX12_send 38 = .ok (.aload_n 0, 1) := by decide +kernel
theorem dX12_send_39 : decode cX12_send 39 = .ok (.iload_n 3, 1) := by decide +kernel
theorem dX12_send_40 : decode cX12_send 40 = .ok (.iconst 1, 1) := by decide +kernel
theorem dX12_send_41 : decode cX12_send 41 = .ok (.bipush 60, 2) := by decide +kernel
theorem dX12_send_43 : decode cX12_send 43 = .ok (.invokestatic 182, 3) := by decide +kernel
theorem dX12_send_46 : decode cX12_send 46 = .ok (.ifCond .ne 7, 3) := by decide +kernel
theorem dX12_send_49 : decode cX12_send 49 = .ok (.iconst 1, 1) := by decide +kernel
theorem dX12_send_50 : decode cX12_send 50 = .ok (.goto 4, 3) := by decide +kernel
theorem dX12_send_53 : decode cX12_send 53 = .ok (.iconst 0, 1) := by decide +kernel
theorem dX12_send_54 : decode cX12_send 54 = .ok (.iconst 2, 1) := by decide +kernel
theorem dX12_send_55 : decode cX12_send 55 = .ok (.invokevirtual 45, 3) := by decide +kernel
theorem dX12_send_58 : decode cX12_send 58 = .ok (.ifCond .eq 5, 3) := by decide +kernel
theorem dX12_send_61 : decode cX12_send 61 = .ok (.iconst 0, 1) := by decide +kernel
theorem dX12_send_62 : decode cX12_send 62 = .ok (.ireturn, 1) := by decide +kernel
theorem dX12_send_63 : decode cX12_send 63 = .ok (.aload_n 0, 1) := by decide +kernel
theorem dX12_send_64 : decode cX12_send 64 = .ok (.getfield 22, 3) := by decide +kernel
theorem dX12_send_67 : decode cX12_send 67 = .ok (.iload_n 1, 1) := by decide +kernel
theorem dX12_send_68 : decode cX12_send 68 = .ok (.invokevirtual 122, 3) := by decide +kernel
theorem dX12_send_71 : decode cX12_send 71 = .ok (.checkcast 215, 3) := by decide +kernel
theorem dX12_send_74 : decode cX12_send 74 = .ok (.astore 4, 2) := by decide +kernel
theorem dX12_send_76 : decode cX12_send 76 = .ok (.aload_n 0, 1) := by decide +kernel
theorem dX12_send_77 : decode cX12_send 77 = .ok (.aload_n 0, 1) := by decide +kernel
theorem dX12_send_78 : decode cX12_send 78 = .ok (.iload_n 2, 1) := by decide +kernel
theorem dX12_send_79 : decode cX12_send 79 = .ok (.invokevirtual 136, 3) := by decide +kernel
theorem dX12_send_82 : decode cX12_send 82 = .ok (.aload 4, 2) := by decide +kernel
theorem dX12_send_84 : decode cX12_send 84 = .ok (.getfield 248, 3) := by decide +kernel
theorem dX12_send_87 : decode cX12_send 87 = .ok (.if_icmp .ne 16, 3) := by decide +kernel
theorem dX12_send_90 : decode cX12_send 90 = .ok (.aload_n 0, 1) := by decide +kernel
theorem dX12_send_91 : decode cX12_send 91 = .ok (.iload_n 2, 1) := by decide +kernel
theorem dX12_send_92 : decode cX12_send 92 = .ok (.invokevirtual 251, 3) := by decide +kernel
theorem dX12_send_95 : decode cX12_send 95 = .ok (.ifCond .ne 12, 3) := by decide +kernel
theorem dX12_send_98 : decode cX12_send 98 = .ok (.iload_n 3, 1) := by decide +kernel
theorem dX12_send_99 : decode cX12_send 99 = .ok (.iconst 1, 1) := by decide +kernel
theorem dX12_send_100 : decode cX12_send 100 = .ok (.if_icmp .le 7, 3) := by decide +kernel
theorem dX12_send_103 : decode cX12_send 103 = .ok (.iconst 1, 1) := by decide +kernel
theorem dX12_send_104 : decode cX12_send 104 = .ok (.goto 4, 3) := by decide +kernel
theorem dX12_send_107 : decode cX12_send 107 = .ok (.iconst 0, 1) := by decide +kernel
theorem dX12_send_108 : decode cX12_send 108 = .ok (.iconst 3, 1) := by decide +kernel
theorem dX12_send_109 : decode cX12_send 109 = .ok (.invokevirtual 45, 3) := by decide +kernel
theorem dX12_send_112 : decode cX12_send 112 = .ok (.ifCond .eq 5, 3) := by decide +kernel
theorem dX12_send_115 : decode cX12_send 115 = .ok (.iconst 0, 1) := by decide +kernel
theorem dX12_send_116 : decode cX12_send 116 = .ok (.ireturn, 1) := by decide +kernel
theorem dX12_send_117 : decode cX12_send 117 = .ok (.iconst 0, 1) := by decide +kernel
theorem dX12_send_118 : decode cX12_send 118 = .ok (.istore 5, 2) := by decide +kernel
theorem dX12_send_120 : decode cX12_send 120 = .ok (.iload 5, 2) := by decide +kernel
theorem dX12_send_122 : decode cX12_send 122 = .ok (.iload_n 3, 1) := by decide +kernel
theorem dX12_send_123 : decode cX12_send 123 = .ok (.if_icmp .ge 92, 3) := by decide +kernel
theorem dX12_send_126 : decode cX12_send 126 = .ok (.aload 4, 2) := by decide +kernel
theorem dX12_send_128 : decode cX12_send 128 = .ok (.aload_n 0, 1) := by decide +kernel
theorem dX12_send_129 : decode cX12_send 129 = .ok (.iload_n 2, 1) := by decide +kernel
theorem dX12_send_130 : decode cX12_send 130 = .ok (.aload 4, 2) := by decide +kernel
theorem dX12_send_132 : decode cX12_send 132 = .ok (.getfield 254, 3) := by decide +kernel
theorem dX12_send_135 : decode cX12_send 135 = .ok (.invokevirtual 159, 3) := by decide +kernel
theorem dX12_send_138 : decode cX12_send 138 = .ok (.putfield 254, 3) := by decide +kernel
theorem dX12_send_141 : decode cX12_send 141 = .ok (.aload 4, 2) := by decide +kernel
theorem dX12_send_143 : decode cX12_send 143 = .ok (.aload_n 0, 1) := by decide +kernel
theorem dX12_send_144 : decode cX12_send 144 = .ok (.iload_n 2, 1) := by decide +kernel
theorem dX12_send_145 : decode cX12_send 145 = .ok (.invokevirtual 139, 3) := by decide +kernel
theorem dX12_send_148 : decode cX12_send 148 = .ok (.putfield 248, 3) := by decide +kernel
theorem dX12_send_151 : decode cX12_send 151 = .ok (.aload 4, 2) := by decide +kernel
theorem dX12_send_153 : decode cX12_send 153 = .ok (.dup, 1) := by decide +kernel
theorem dX12_send_154 : decode cX12_send 154 = .ok (.getfield 257, 3) := by decide +kernel
theorem dX12_send_157 : decode cX12_send 157 = .ok (.iconst 1, 1) := by decide +kernel
theorem dX12_send_158 : decode cX12_send 158 = .ok (.iadd, 1) := by decide +kernel
theorem dX12_send_159 : decode cX12_send 159 = .ok (.putfield 257, 3) := by decide +kernel
theorem dX12_send_162 : decode cX12_send 162 = .ok (.aload_n 0, 1) := by decide +kernel
theorem dX12_send_163 : decode cX12_send 163 = .ok (.dup, 1) := by decide +kernel
theorem dX12_send_164 : decode cX12_send 164 = .ok (.getfield 260, 3) := by decide +kernel
theorem dX12_send_167 : decode cX12_send 167 = .ok (.iconst 1, 1) := by decide +kernel
theorem dX12_send_168 : decode cX12_send 168 = .ok (.iadd, 1) := by decide +kernel
theorem dX12_send_169 : decode cX12_send 169 = .ok (.putfield 260, 3) := by decide +kernel
theorem dX12_send_172 : decode cX12_send 172 = .ok (.aload 4, 2) := by decide +kernel
theorem dX12_send_174 : decode cX12_send 174 = .ok (.getfield 248, 3) := by decide +kernel
theorem dX12_send_177 : decode cX12_send 177 = .ok (.aload 4, 2) := by decide +kernel
theorem dX12_send_179 : decode cX12_send 179 = .ok (.getfield 261, 3) := by decide +kernel
theorem dX12_send_182 : decode cX12_send 182 = .ok (.if_icmp .ne 27, 3) := by decide +kernel
theorem dX12_send_185 : decode cX12_send 185 = .ok (.aload 4, 2) := by decide +kernel
theorem dX12_send_187 : decode cX12_send 187 = .ok (.getfield 254, 3) := by decide +kernel
theorem dX12_send_190 : decode cX12_send 190 = .ok (.aload 4, 2) := by decide +kernel
theorem dX12_send_192 : decode cX12_send 192 = .ok (.getfield 264, 3) := by decide +kernel
theorem dX12_send_195 : decode cX12_send 195 = .ok (.if_icmp .ne 14, 3) := by decide +kernel
theorem dX12_send_198 : decode cX12_send 198 = .ok (.aload 4, 2) := by decide +kernel
theorem dX12_send_200 : decode cX12_send 200 = .ok (.dup, 1) := by decide +kernel
theorem dX12_send_201 : decode cX12_send 201 = .ok (.getfield 267, 3) := by decide +kernel
theorem dX12_send_204 : decode cX12_send 204 = .ok (.iconst 1, 1) := by decide +kernel
theorem dX12_send_205 : decode cX12_send 205 = .ok (.iadd, 1) := by decide +kernel
theorem dX12_send_206 : decode cX12_send 206 = .ok (.putfield 267, 3) := by decide +kernel
theorem dX12_send_209 : decode cX12_send 209 = .ok (.iinc 5 1, 3) := by decide +kernel
theorem dX12_send_212 : decode cX12_send 212 = .ok (.goto (-92), 3) := by decide +kernel
theorem dX12_send_215 : decode cX12_send 215 = .ok (.aload 4, 2) := by decide +kernel
theorem dX12_send_217 : decode cX12_send 217 = .ok (.getfield 254, 3) := by decide +kernel
theorem dX12_send_220 : decode cX12_send 220 = .ok (.ireturn, 1) := by decide +kernel
theorem dX12_trial_0 : decode cX12_trial 0 = .ok (.aload_n 0, 1) := by decide +kernel
theorem dX12_trial_1 : decode cX12_trial 1 = .ok (.iload_n 1, 1) := by decide +kernel
theorem dX12_trial_2 : decode cX12_trial 2 = .ok (.iconst 0, 1) := by decide +kernel
theorem dX12_trial_3 : decode cX12_trial 3 = .ok (.aload_n 0, 1) := by decide +kernel
theorem dX12_trial_4 : decode cX12_trial 4 = .ok (.getfield 25, 3) := by decide +kernel
theorem dX12_trial_7 : decode cX12_trial 7 = .ok (.invokevirtual 134, 3) := by decide +kernel
