theorem dX12_trial_10 : decode cX12_trial 10 = .ok (.iconst 1, 1) := by decide +kernel
theorem dX12_trial_11 : decode cX12_trial 11 = .ok (.isub, 1) := by decide +kernel
theorem dX12_trial_12 : decode cX12_trial 12 = .ok (.invokestatic 182, 3) := by decide +kernel
theorem dX12_trial_15 : decode cX12_trial 15 = .ok (.ifCond .ne 7, 3) := by decide +kernel
theorem dX12_trial_18 : decode cX12_trial 18 = .ok (.iconst 1, 1) := by decide +kernel
theorem dX12_trial_19 : decode cX12_trial 19 = .ok (.goto 4, 3) := by decide +kernel
theorem dX12_trial_22 : decode cX12_trial 22 = .ok (.iconst 0, 1) := by decide +kernel
theorem dX12_trial_23 : decode cX12_trial 23 = .ok (.iconst 1, 1) := by decide +kernel
theorem dX12_trial_24 : decode cX12_trial 24 = .ok (.invokevirtual 186, 3) := by decide +kernel
theorem dX12_trial_27 : decode cX12_trial 27 = .ok (.ifCond .ne 25, 3) := by decide +kernel
theorem dX12_trial_30 : decode cX12_trial 30 = .ok (.aload_n 0, 1) := by decide +kernel
theorem dX12_trial_31 : decode cX12_trial 31 = .ok (.aload_n 0, 1) := by decide +kernel
theorem dX12_trial_32 : decode cX12_trial 32 = .ok (.getfield 25, 3) := by decide +kernel
theorem dX12_trial_35 : decode cX12_trial 35 = .ok (.iload_n 1, 1) := by decide +kernel
theorem dX12_trial_36 : decode cX12_trial 36 = .ok (.invokevirtual 122, 3) := by decide +kernel
theorem dX12_trial_39 : decode cX12_trial 39 = .ok (.checkcast 200, 3) := by decide +kernel
theorem dX12_trial_42 : decode cX12_trial 42 = .ok (.invokevirtual 244, 3) := by decide +kernel
theorem dX12_trial_45 : decode cX12_trial 45 = .ok (.ifCond .eq 7, 3) := by decide +kernel
theorem dX12_trial_48 : decode cX12_trial 48 = .ok (.iconst 1, 1) := by decide +kernel
theorem dX12_trial_49 : decode cX12_trial 49 = .ok (.goto 4, 3) := by decide +kernel
theorem dX12_trial_52 : decode cX12_trial 52 = .ok (.iconst 0, 1) := by decide +kernel
theorem dX12_trial_53 : decode cX12_trial 53 = .ok (.ireturn, 1) := by decide +kernel
theorem dX12_objects_0 : decode cX12_objects 0 = .ok (.aload_n 0, 1) := by decide +kernel
theorem dX12_objects_1 : decode cX12_objects 1 = .ok (.iload_n 1, 1) := by decide +kernel
theorem dX12_objects_2 : decode cX12_objects 2 = .ok (.invokestatic 212, 3) := by decide +kernel
theorem dX12_objects_5 : decode cX12_objects 5 = .ok (.iconst 1, 1) := by decide +kernel
theorem dX12_objects_6 : decode cX12_objects 6 = .ok (.invokevirtual 186, 3) := by decide +kernel
theorem dX12_objects_9 : decode cX12_objects 9 = .ok (.ifCond .eq 7, 3) := by decide +kernel
theorem dX12_objects_12 : decode cX12_objects 12 = .ok (.iconst 0, 1) := by decide +kernel
theorem dX12_objects_13 : decode cX12_objects 13 = .ok (.goto 10, 3) := by decide +kernel
theorem dX12_objects_16 : decode cX12_objects 16 = .ok (.aload_n 0, 1) := by decide +kernel
theorem dX12_objects_17 : decode cX12_objects 17 = .ok (.getfield 11, 3) := by decide +kernel
theorem dX12_objects_20 : decode cX12_objects 20 = .ok (.iload_n 1, 1) := by decide +kernel
theorem dX12_objects_21 : decode cX12_objects 21 = .ok (.aaload, 1) := by decide +kernel
theorem dX12_objects_22 : decode cX12_objects 22 = .ok (.arraylength, 1) := by decide +kernel
theorem dX12_objects_23 : decode cX12_objects 23 = .ok (.ireturn, 1) := by decide +kernel
theorem dX12_isNoRank_0 : decode cX12_isNoRank 0 = .ok (.iload_n 1, 1) := by decide +kernel
theorem dX12_isNoRank_1 : decode cX12_isNoRank 1 = .ok (.invokestatic 212, 3) := by decide +kernel
theorem dX12_isNoRank_4 : decode cX12_isNoRank 4 = .ok (.ifCond .ne 20, 3) := by decide +kernel
theorem dX12_isNoRank_7 : decode cX12_isNoRank 7 = .ok (.iload_n 2, 1) := by decide +kernel
theorem dX12_isNoRank_8 : decode cX12_isNoRank 8 = .ok (.iconst 0, 1) := by decide +kernel
theorem dX12_isNoRank_9 : decode cX12_isNoRank 9 = .ok (.aload_n 0, 1) := by decide +kernel
theorem dX12_isNoRank_10 : decode cX12_isNoRank 10 = .ok (.getfield 11, 3) := by decide +kernel
theorem dX12_isNoRank_13 : decode cX12_isNoRank 13 = .ok (.iload_n 1, 1) := by decide +kernel
theorem dX12_isNoRank_14 : decode cX12_isNoRank 14 = .ok (.aaload, 1) := by decide +kernel
theorem dX12_isNoRank_15 : decode cX12_isNoRank 15 = .ok (.arraylength, 1) := by decide +kernel
theorem dX12_isNoRank_16 : decode cX12_isNoRank 16 = .ok (.iconst 1, 1) := by decide +kernel
theorem dX12_isNoRank_17 : decode cX12_isNoRank 17 = .ok (.isub, 1) := by decide +kernel
theorem dX12_isNoRank_18 : decode cX12_isNoRank 18 = .ok (.invokestatic 182, 3) := by decide +kernel
theorem dX12_isNoRank_21 : decode cX12_isNoRank 21 = .ok (.ifCond .ne 7, 3) := by decide +kernel
theorem dX12_isNoRank_24 : decode cX12_isNoRank 24 = .ok (.iconst 1, 1) := by decide +kernel
theorem dX12_isNoRank_25 : decode cX12_isNoRank 25 = .ok (.goto 4, 3) := by decide +kernel
theorem dX12_isNoRank_28 : decode cX12_isNoRank 28 = .ok (.iconst 0, 1) := by decide +kernel
theorem dX12_isNoRank_29 : decode cX12_isNoRank 29 = .ok (.ireturn, 1) := by decide +kernel
theorem dX12_unrank_0 : decode cX12_unrank 0 = .ok (.aload_n 0, 1) := by decide +kernel
theorem dX12_unrank_1 : decode cX12_unrank 1 = .ok (.aload_n 0, 1) := by decide +kernel
theorem dX12_unrank_2 : decode cX12_unrank 2 = .ok (.iload_n 1, 1) := by decide +kernel
theorem dX12_unrank_3 : decode cX12_unrank 3 = .ok (.iload_n 2, 1) := by decide +kernel
theorem dX12_unrank_4 : decode cX12_unrank 4 = .ok (.invokevirtual 270, 3) := by decide +kernel
theorem dX12_unrank_7 : decode cX12_unrank 7 = .ok (.iconst 1, 1) := by decide +kernel
theorem dX12_unrank_8 : decode cX12_unrank 8 = .ok (.invokevirtual 186, 3) := by decide +kernel
theorem dX12_unrank_11 : decode cX12_unrank 11 = .ok (.ifCond .eq 7, 3) := by decide +kernel
theorem dX12_unrank_14 : decode cX12_unrank 14 = .ok (.iconst 0, 1) := by decide +kernel
theorem dX12_unrank_15 : decode cX12_unrank 15 = .ok (.goto 11, 3) := by decide +kernel
theorem dX12_unrank_18 : decode cX12_unrank 18 = .ok (.aload_n 0, 1) := by decide +kernel
theorem dX12_unrank_19 : decode cX12_unrank 19 = .ok (.getfield 11, 3) := by decide +kernel
theorem dX12_unrank_22 : decode cX12_unrank 22 = .ok (.iload_n 1, 1) := by decide +kernel
theorem dX12_unrank_23 : decode cX12_unrank 23 = .ok (.aaload, 1) := by decide +kernel
theorem dX12_unrank_24 : decode cX12_unrank 24 = .ok (.iload_n 2, 1) := by decide +kernel
theorem dX12_unrank_25 : decode cX12_unrank 25 = .ok (.iaload, 1) := by decide +kernel
theorem dX12_unrank_26 : decode cX12_unrank 26 = .ok (.ireturn, 1) := by decide +kernel
theorem dX12_rank_0 : decode cX12_rank 0 = .ok (.aload_n 0, 1) := by decide +kernel
theorem dX12_rank_1 : decode cX12_rank 1 = .ok (.iload_n 1, 1) := by decide +kernel
theorem dX12_rank_2 : decode cX12_rank 2 = .ok (.invokestatic 212, 3) := by decide +kernel
theorem dX12_rank_5 : decode cX12_rank 5 = .ok (.iconst 1, 1) := by decide +kernel
theorem dX12_rank_6 : decode cX12_rank 6 = .ok (.invokevirtual 186, 3) := by decide +kernel
theorem dX12_rank_9 : decode cX12_rank 9 = .ok (.ifCond .eq 7, 3) := by decide +kernel
theorem dX12_rank_12 : decode cX12_rank 12 = .ok (.iconst 0, 1) := by decide +kernel
theorem dX12_rank_13 : decode cX12_rank 13 = .ok (.goto 9, 3) := by decide +kernel
theorem dX12_rank_16 : decode cX12_rank 16 = .ok (.aload_n 0, 1) := by decide +kernel
theorem dX12_rank_17 : decode cX12_rank 17 = .ok (.iload_n 1, 1) := by decide +kernel
theorem dX12_rank_18 : decode cX12_rank 18 = .ok (.iload_n 2, 1) := by decide +kernel
theorem dX12_rank_19 : decode cX12_rank 19 = .ok (.invokevirtual 162, 3) := by decide +kernel
theorem dX12_rank_22 : decode cX12_rank 22 = .ok (.ireturn, 1) := by decide +kernel
theorem dX12_statistic_0 : decode cX12_statistic 0 = .ok (.aload_n 0, 1) := by decide +kernel
theorem dX12_statistic_1 : decode cX12_statistic 1 = .ok (.aload_n 0, 1) := by decide +kernel
theorem dX12_statistic_2 : decode cX12_statistic 2 = .ok (.iload_n 1, 1) := by decide +kernel
theorem dX12_statistic_3 : decode cX12_statistic 3 = .ok (.iload_n 3, 1) := by decide +kernel
theorem dX12_statistic_4 : decode cX12_statistic 4 = .ok (.invokevirtual 270, 3) := by decide +kernel
theorem dX12_statistic_7 : decode cX12_statistic 7 = .ok (.iconst 1, 1) := by decide +kernel
theorem dX12_statistic_8 : decode cX12_statistic 8 = .ok (.invokevirtual 186, 3) := by decide +kernel
theorem dX12_statistic_11 : decode cX12_statistic 11 = .ok (.ifCond .ne 15, 3) := by decide +kernel
theorem dX12_statistic_14 : decode cX12_statistic 14 = .ok (.aload_n 0, 1) := by decide +kernel
theorem dX12_statistic_15 : decode cX12_statistic 15 = .ok (.iload_n 2, 1) := by decide +kernel
theorem dX12_statistic_16 : decode cX12_statistic 16 = .ok (.invokestatic 238, 3) := by decide +kernel
theorem dX12_statistic_19 : decode cX12_statistic 19 = .ok (.iconst 2, 1) := by decide +kernel
theorem dX12_statistic_20 : decode cX12_statistic 20 = .ok (.invokevirtual 45, 3) := by decide +kernel
theorem dX12_statistic_23 : decode cX12_statistic 23 = .ok (.ifCond .eq 7, 3) := by decide +kernel
theorem dX12_statistic_26 : decode cX12_statistic 26 = .ok (.iconst 0, 1) := by decide +kernel
theorem dX12_statistic_27 : decode cX12_statistic 27 = .ok (.goto 17, 3) := by decide +kernel
theorem dX12_statistic_30 : decode cX12_statistic 30 = .ok (.aload_n 0, 1) := by decide +kernel
theorem dX12_statistic_31 : decode cX12_statistic 31 = .ok (.iload_n 1, 1) := by decide +kernel
theorem dX12_statistic_32 : decode cX12_statistic 32 = .ok (.iload_n 2, 1) := by decide +kernel
theorem dX12_statistic_33 : decode cX12_statistic 33 = .ok (.aload_n 0, 1) := by decide +kernel
theorem dX12_statistic_34 : decode cX12_statistic 34 = .ok (.getfield 11, 3) := by decide +kernel
theorem dX12_statistic_37 : decode cX12_statistic 37 = .ok (.iload_n 1, 1) := by decide +kernel
theorem dX12_statistic_38 : decode cX12_statistic 38 = .ok (.aaload, 1) := by decide +kernel
theorem dX12_statistic_39 : decode cX12_statistic 39 = .ok (.iload_n 3, 1) := by decide +kernel
theorem dX12_statistic_40 : decode cX12_statistic 40 = .ok (.iaload, 1) := by decide +kernel
theorem dX12_statistic_41 : decode cX12_statistic 41 = .ok (.invokevirtual 179, 3) := by decide +kernel
theorem dX12_statistic_44 : decode cX12_statistic 44 = .ok (.ireturn, 1) := by decide +kernel
theorem dX12_spread_0 : decode cX12_spread 0 = .ok (.aload_n 0, 1) := by decide +kernel
theorem dX12_spread_1 : decode cX12_spread 1 = .ok (.iload_n 1, 1) := by decide +kernel
theorem dX12_spread_2 : decode cX12_spread 2 = .ok (.invokestatic 212, 3) := by decide +kernel
theorem dX12_spread_5 : decode cX12_spread 5 = .ok (.iconst 1, 1) := by decide +kernel
theorem dX12_spread_6 : decode cX12_spread 6 = .ok (.invokevirtual 186, 3) := by decide +kernel
theorem dX12_spread_9 : decode cX12_spread 9 = .ok (.ifCond .ne 15, 3) := by decide +kernel
theorem dX12_spread_12 : decode cX12_spread 12 = .ok (.aload_n 0, 1) := by decide +kernel
theorem dX12_spread_13 : decode cX12_spread 13 = .ok (.iload_n 2, 1) := by decide +kernel
theorem dX12_spread_14 : decode cX12_spread 14 = .ok (.invokestatic 238, 3) := by decide +kernel
theorem dX12_spread_17 : decode cX12_spread 17 = .ok (.iconst 2, 1) := by decide +kernel
theorem dX12_spread_18 : decode cX12_spread 18 = .ok (.invokevirtual 45, 3) := by decide +kernel
theorem dX12_spread_21 : decode cX12_spread 21 = .ok (.ifCond .eq 5, 3) := by decide +kernel
theorem dX12_spread_24 : decode cX12_spread 24 = .ok (.iconst 0, 1) := by decide +kernel
theorem dX12_spread_25 : decode cX12_spread 25 = .ok (.ireturn, 1) := by decide +kernel
theorem dX12_spread_26 : decode cX12_spread 26 = .ok (.iconst 0, 1) := by decide +kernel
theorem dX12_spread_27 : decode cX12_spread 27 = .ok (.istore 4, 2) := by decide +kernel
theorem dX12_spread_29 : decode cX12_spread 29 = .ok (.aload_n 0, 1) := by decide +kernel
theorem dX12_spread_30 : decode cX12_spread 30 = .ok (.iload_n 1, 1) := by decide +kernel
theorem dX12_spread_31 : decode cX12_spread 31 = .ok (.iload_n 2, 1) := by decide +kernel
theorem dX12_spread_32 : decode cX12_spread 32 = .ok (.invokevirtual 273, 3) := by decide +kernel
theorem dX12_spread_35 : decode cX12_spread 35 = .ok (.astore 5, 2) := by decide +kernel
theorem dX12_spread_37 : decode cX12_spread 37 = .ok (.aload 5, 2) := by decide +kernel
theorem dX12_spread_39 : decode cX12_spread 39 = .ok (.arraylength, 1) := by decide +kernel
theorem dX12_spread_40 : decode cX12_spread 40 = .ok (.istore 6, 2) := by decide +kernel
theorem dX12_spread_42 : decode cX12_spread 42 = .ok (.iconst 0, 1) := by decide +kernel
theorem dX12_spread_43 : decode cX12_spread 43 = .ok (.istore 7, 2) := by decide +kernel
theorem dX12_spread_45 : decode cX12_spread 45 = .ok (.iload 7, 2) := by decide +kernel
theorem dX12_spread_47 : decode cX12_spread 47 = .ok (.iload 6, 2) := by decide +kernel
theorem dX12_spread_49 : decode cX12_spread 49 = .ok (.if_icmp .ge 32, 3) := by decide +kernel
theorem dX12_spread_52 : decode cX12_spread 52 = .ok (.aload 5, 2) := by decide +kernel
theorem dX12_spread_54 : decode cX12_spread 54 = .ok (.iload 7, 2) := by decide +kernel
theorem dX12_spread_56 : decode cX12_spread 56 = .ok (.iaload, 1) := by decide +kernel
theorem dX12_spread_57 : decode cX12_spread 57 = .ok (.istore 8, 2) := by decide +kernel
theorem dX12_spread_59 : decode cX12_spread 59 = .ok (.iload 4, 2) := by decide +kernel
theorem dX12_spread_61 : decode cX12_spread 61 = .ok (.iload 8, 2) := by decide +kernel
theorem dX12_spread_63 : decode cX12_spread 63 = .ok (.iload_n 3, 1) := by decide +kernel
theorem dX12_spread_64 : decode cX12_spread 64 = .ok (.if_icmp .ne 7, 3) := by decide +kernel
theorem dX12_spread_67 : decode cX12_spread 67 = .ok (.iconst 1, 1) := by decide +kernel
theorem dX12_spread_68 : decode cX12_spread 68 = .ok (.goto 4, 3) := by decide +kernel
theorem dX12_spread_71 : decode cX12_spread 71 = .ok (.iconst 0, 1) := by decide +kernel
theorem dX12_spread_72 : decode cX12_spread 72 = .ok (.iadd, 1) := by decide +kernel
theorem dX12_spread_73 : decode cX12_spread 73 = .ok (.istore 4, 2) := by decide +kernel
theorem dX12_spread_75 : decode cX12_spread 75 = .ok (.iinc 7 1, 3) := by decide +kernel
theorem dX12_spread_78 : decode cX12_spread 78 = .ok (.goto (-33), 3) := by decide +kernel
theorem dX12_spread_81 : decode cX12_spread 81 = .ok (.iload 4, 2) := by decide +kernel
theorem dX12_spread_83 : decode cX12_spread 83 = .ok (.ireturn, 1) := by decide +kernel
theorem dX12_signsNow_0 : decode cX12_signsNow 0 = .ok (.iconst 0, 1) := by decide +kernel
theorem dX12_signsNow_1 : decode cX12_signsNow 1 = .ok (.istore_n 3, 1) := by decide +kernel
theorem dX12_signsNow_2 : decode cX12_signsNow 2 = .ok (.aload_n 0, 1) := by decide +kernel
theorem dX12_signsNow_3 : decode cX12_signsNow 3 = .ok (.iload_n 1, 1) := by decide +kernel
theorem dX12_signsNow_4 : decode cX12_signsNow 4 = .ok (.iload_n 2, 1) := by decide +kernel
theorem dX12_signsNow_5 : decode cX12_signsNow 5 = .ok (.invokevirtual 273, 3) := by decide +kernel
theorem dX12_signsNow_8 : decode cX12_signsNow 8 = .ok (.astore 4, 2) := by decide +kernel
theorem dX12_signsNow_10 : decode cX12_signsNow 10 = .ok (.aload 4, 2) := by decide +kernel
theorem dX12_signsNow_12 : decode cX12_signsNow 12 = .ok (.arraylength, 1) := by decide +kernel
theorem dX12_signsNow_13 : decode cX12_signsNow 13 = .ok (.istore 5, 2) := by decide +kernel
theorem dX12_signsNow_15 : decode cX12_signsNow 15 = .ok (.iconst 0, 1) := by decide +kernel
theorem dX12_signsNow_16 : decode cX12_signsNow 16 = .ok (.istore 6, 2) := by decide +kernel
theorem dX12_signsNow_18 : decode cX12_signsNow 18 = .ok (.iload 6, 2) := by decide +kernel
theorem dX12_signsNow_20 : decode cX12_signsNow 20 = .ok (.iload 5, 2) := by decide +kernel
theorem dX12_signsNow_22 : decode cX12_signsNow 22 = .ok (.if_icmp .ge 24, 3) := by decide +kernel
theorem dX12_signsNow_25 : decode cX12_signsNow 25 = .ok (.aload 4, 2) := by decide +kernel
theorem dX12_signsNow_27 : decode cX12_signsNow 27 = .ok (.iload 6, 2) := by decide +kernel
theorem dX12_signsNow_29 : decode cX12_signsNow 29 = .ok (.iaload, 1) := by decide +kernel
theorem dX12_signsNow_30 : decode cX12_signsNow 30 = .ok (.istore 7, 2) := by decide +kernel
theorem dX12_signsNow_32 : decode cX12_signsNow 32 = .ok (.iload_n 3, 1) := by decide +kernel
theorem dX12_signsNow_33 : decode cX12_signsNow 33 = .ok (.iload 7, 2) := by decide +kernel
theorem dX12_signsNow_35 : decode cX12_signsNow 35 = .ok (.invokestatic 277, 3) := by decide +kernel
theorem dX12_signsNow_38 : decode cX12_signsNow 38 = .ok (.iadd, 1) := by decide +kernel
theorem dX12_signsNow_39 : decode cX12_signsNow 39 = .ok (.istore_n 3, 1) := by decide +kernel
theorem dX12_signsNow_40 : decode cX12_signsNow 40 = .ok (.iinc 6 1, 3) := by decide +kernel
theorem dX12_signsNow_43 : decode cX12_signsNow 43 = .ok (.goto (-25), 3) := by decide +kernel
theorem dX12_signsNow_46 : decode cX12_signsNow 46 = .ok (.iload_n 3, 1) := by decide +kernel
theorem dX12_signsNow_47 : decode cX12_signsNow 47 = .ok (.ireturn, 1) := by decide +kernel
theorem dX12_signs_0 : decode cX12_signs 0 = .ok (.aload_n 0, 1) := by decide +kernel
theorem dX12_signs_1 : decode cX12_signs 1 = .ok (.iload_n 1, 1) := by decide +kernel
theorem dX12_signs_2 : decode cX12_signs 2 = .ok (.invokestatic 212, 3) := by decide +kernel
theorem dX12_signs_5 : decode cX12_signs 5 = .ok (.iconst 1, 1) := by decide +kernel
theorem dX12_signs_6 : decode cX12_signs 6 = .ok (.invokevirtual 186, 3) := by decide +kernel
theorem dX12_signs_9 : decode cX12_signs 9 = .ok (.ifCond .ne 15, 3) := by decide +kernel
theorem dX12_signs_12 : decode cX12_signs 12 = .ok (.aload_n 0, 1) := by decide +kernel
theorem dX12_signs_13 : decode cX12_signs 13 = .ok (.iload_n 2, 1) := by decide +kernel
theorem dX12_signs_14 : decode cX12_signs 14 = .ok (.invokestatic 238, 3) := by decide +kernel
theorem dX12_signs_17 : decode cX12_signs 17 = .ok (.iconst 2, 1) := by decide +kernel
theorem dX12_signs_18 : decode cX12_signs 18 = .ok (.invokevirtual 45, 3) := by decide +kernel
theorem dX12_signs_21 : decode cX12_signs 21 = .ok (.ifCond .eq 7, 3) := by decide +kernel
theorem dX12_signs_24 : decode cX12_signs 24 = .ok (.iconst 0, 1) := by decide +kernel
theorem dX12_signs_25 : decode cX12_signs 25 = .ok (.goto 9, 3) := by decide +kernel
theorem dX12_signs_28 : decode cX12_signs 28 = .ok (.aload_n 0, 1) := by decide +kernel
theorem dX12_signs_29 : decode cX12_signs 29 = .ok (.iload_n 1, 1) := by decide +kernel
theorem dX12_signs_30 : decode cX12_signs 30 = .ok (.iload_n 2, 1) := by decide +kernel
theorem dX12_signs_31 : decode cX12_signs 31 = .ok (.invokevirtual 280, 3) := by decide +kernel
theorem dX12_signs_34 : decode cX12_signs 34 = .ok (.ireturn, 1) := by decide +kernel
theorem dX12_alike_0 : decode cX12_alike 0 = .ok (.aload_n 0, 1) := by decide +kernel
theorem dX12_alike_1 : decode cX12_alike 1 = .ok (.iload_n 1, 1) := by decide +kernel
theorem dX12_alike_2 : decode cX12_alike 2 = .ok (.invokestatic 212, 3) := by decide +kernel
theorem dX12_alike_5 : decode cX12_alike 5 = .ok (.ifCond .ne 10, 3) := by decide +kernel
theorem dX12_alike_8 : decode cX12_alike 8 = .ok (.iload_n 3, 1) := by decide +kernel
theorem dX12_alike_9 : decode cX12_alike 9 = .ok (.invokestatic 212, 3) := by decide +kernel
theorem dX12_alike_12 : decode cX12_alike 12 = .ok (.ifCond .eq 7, 3) := by decide +kernel
theorem dX12_alike_15 : decode cX12_alike 15 = .ok (.iconst 1, 1) := by decide +kernel
theorem dX12_alike_16 : decode cX12_alike 16 = .ok (.goto 4, 3) := by decide +kernel
theorem dX12_alike_19 : decode cX12_alike 19 = .ok (.iconst 0, 1) := by decide +kernel
theorem dX12_alike_20 : decode cX12_alike 20 = .ok (.iconst 1, 1) := by decide +kernel
theorem dX12_alike_21 : decode cX12_alike 21 = .ok (.invokevirtual 186, 3) := by decide +kernel
theorem dX12_alike_24 : decode cX12_alike 24 = .ok (.ifCond .ne 31, 3) := by decide +kernel
theorem dX12_alike_27 : decode cX12_alike 27 = .ok (.aload_n 0, 1) := by decide +kernel
theorem dX12_alike_28 : decode cX12_alike 28 = .ok (.iload_n 2, 1) := by decide +kernel
theorem dX12_alike_29 : decode cX12_alike 29 = .ok (.invokestatic 238, 3) := by decide +kernel
theorem dX12_alike_32 : decode cX12_alike 32 = .ok (.ifCond .ne 11, 3) := by decide +kernel
theorem dX12_alike_35 : decode cX12_alike 35 = .ok (.iload 4, 2) := by decide +kernel
theorem dX12_alike_37 : decode cX12_alike 37 = .ok (.invokestatic 238, 3) := by decide +kernel
theorem dX12_alike_40 : decode cX12_alike 40 = .ok (.ifCond .eq 7, 3) := by decide +kernel
theorem dX12_alike_43 : decode cX12_alike 43 = .ok (.iconst 1, 1) := by decide +kernel
theorem dX12_alike_44 : decode cX12_alike 44 = .ok (.goto 4, 3) := by decide +kernel
theorem dX12_alike_47 : decode cX12_alike 47 = .ok (.iconst 0, 1) := by decide +kernel
theorem dX12_alike_48 : decode cX12_alike 48 = .ok (.iconst 2, 1) := by decide +kernel
theorem dX12_alike_49 : decode cX12_alike 49 = .ok (.invokevirtual 45, 3) := by decide +kernel
theorem dX12_alike_52 : decode cX12_alike 52 = .ok (.ifCond .eq 5, 3) := by decide +kernel
theorem dX12_alike_55 : decode cX12_alike 55 = .ok (.iconst 0, 1) := by decide +kernel
theorem dX12_alike_56 : decode cX12_alike 56 = .ok (.ireturn, 1) := by decide +kernel
theorem dX12_alike_57 : decode cX12_alike 57 = .ok (.bipush 64, 2) := by decide +kernel
theorem dX12_alike_59 : decode cX12_alike 59 = .ok (.newarray .int, 2) := by decide +kernel
theorem dX12_alike_61 : decode cX12_alike 61 = .ok (.astore 5, 2) := by decide +kernel
theorem dX12_alike_63 : decode cX12_alike 63 = .ok (.aload_n 0, 1) := by decide +kernel
theorem dX12_alike_64 : decode cX12_alike 64 = .ok (.iload_n 1, 1) := by decide +kernel
theorem dX12_alike_65 : decode cX12_alike 65 = .ok (.iload_n 2, 1) := by decide +kernel
theorem dX12_alike_66 : decode cX12_alike 66 = .ok (.invokevirtual 273, 3) := by decide +kernel
theorem dX12_alike_69 : decode cX12_alike 69 = .ok (.astore 6, 2) := by decide +kernel
theorem dX12_alike_71 : decode cX12_alike 71 = .ok (.aload 6, 2) := by decide +kernel
theorem dX12_alike_73 : decode cX12_alike 73 = .ok (.arraylength, 1) := by decide +kernel
theorem dX12_alike_74 : decode cX12_alike 74 = .ok (.istore 7, 2) := by decide +kernel
theorem dX12_alike_76 : decode cX12_alike 76 = .ok (.iconst 0, 1) := by decide +kernel
theorem dX12_alike_77 : decode cX12_alike 77 = .ok (.istore 8, 2) := by decide +kernel
theorem dX12_alike_79 : decode cX12_alike 79 = .ok (.iload 8, 2) := by decide +kernel
theorem dX12_alike_81 : decode cX12_alike 81 = .ok (.iload 7, 2) := by decide +kernel
theorem dX12_alike_83 : decode cX12_alike 83 = .ok (.if_icmp .ge 25, 3) := by decide +kernel
theorem dX12_alike_86 : decode cX12_alike 86 = .ok (.aload 6, 2) := by decide +kernel
theorem dX12_alike_88 : decode cX12_alike 88 = .ok (.iload 8, 2) := by decide +kernel
theorem dX12_alike_90 : decode cX12_alike 90 = .ok (.iaload, 1) := by decide +kernel
theorem dX12_alike_91 : decode cX12_alike 91 = .ok (.istore 9, 2) := by decide +kernel
theorem dX12_alike_93 : decode cX12_alike 93 = .ok (.aload 5, 2) := by decide +kernel
theorem dX12_alike_95 : decode cX12_alike 95 = .ok (.iload 9, 2) := by decide +kernel
theorem dX12_alike_97 : decode cX12_alike 97 = .ok (.dup2, 1) := by decide +kernel
theorem dX12_alike_98 : decode cX12_alike 98 = .ok (.iaload, 1) := by decide +kernel
theorem dX12_alike_99 : decode cX12_alike 99 = .ok (.iconst 1, 1) := by decide +kernel
theorem dX12_alike_100 : decode cX12_alike 100 = .ok (.iadd, 1) := by decide +kernel
theorem dX12_alike_101 : decode cX12_alike 101 = .ok (.iastore, 1) := by decide +kernel
theorem dX12_alike_102 : decode cX12_alike 102 = .ok (.iinc 8 1, 3) := by decide +kernel
theorem dX12_alike_105 : decode cX12_alike 105 = .ok (.goto (-26), 3) := by decide +kernel
theorem dX12_alike_108 : decode cX12_alike 108 = .ok (.aload_n 0, 1) := by decide +kernel
theorem dX12_alike_109 : decode cX12_alike 109 = .ok (.iload_n 3, 1) := by decide +kernel
theorem dX12_alike_110 : decode cX12_alike 110 = .ok (.iload 4, 2) := by decide +kernel
theorem dX12_alike_112 : decode cX12_alike 112 = .ok (.invokevirtual 273, 3) := by decide +kernel
theorem dX12_alike_115 : decode cX12_alike 115 = .ok (.astore 6, 2) := by decide +kernel
theorem dX12_alike_117 : decode cX12_alike 117 = .ok (.aload 6, 2) := by decide +kernel
theorem dX12_alike_119 : decode cX12_alike 119 = .ok (.arraylength, 1) := by decide +kernel
theorem dX12_alike_120 : decode cX12_alike 120 = .ok (.istore 7, 2) := by decide +kernel
theorem dX12_alike_122 : decode cX12_alike 122 = .ok (.iconst 0, 1) := by decide +kernel
theorem dX12_alike_123 : decode cX12_alike 123 = .ok (.istore 8, 2) := by decide +kernel
theorem dX12_alike_125 : decode cX12_alike 125 = .ok (.iload 8, 2) := by decide +kernel
theorem dX12_alike_127 : decode cX12_alike 127 = .ok (.iload 7, 2) := by decide +kernel
theorem dX12_alike_129 : decode cX12_alike 129 = .ok (.if_icmp .ge 25, 3) := by decide +kernel
theorem dX12_alike_132 : decode cX12_alike 132 = .ok (.aload 6, 2) := by decide +kernel
theorem dX12_alike_134 : decode cX12_alike 134 = .ok (.iload 8, 2) := by decide +kernel
theorem dX12_alike_136 : decode cX12_alike 136 = .ok (.iaload, 1) := by decide +kernel
theorem dX12_alike_137 : decode cX12_alike 137 = .ok (.istore 9, 2) := by decide +kernel
theorem dX12_alike_139 : decode cX12_alike 139 = .ok (.aload 5, 2) := by decide +kernel
theorem dX12_alike_141 : decode cX12_alike 141 = .ok (.iload 9, 2) := by decide +kernel
theorem dX12_alike_143 : decode cX12_alike 143 = .ok (.dup2, 1) := by decide +kernel
theorem dX12_alike_144 : decode cX12_alike 144 = .ok (.iaload, 1) := by decide +kernel
theorem dX12_alike_145 : decode cX12_alike 145 = .ok (.iconst 1, 1) := by decide +kernel
theorem dX12_alike_146 : decode cX12_alike 146 = .ok (.isub, 1) := by decide +kernel
theorem dX12_alike_147 : decode cX12_alike 147 = .ok (.iastore, 1) := by decide +kernel
theorem dX12_alike_148 : decode cX12_alike 148 = .ok (.iinc 8 1, 3) := by decide +kernel
theorem dX12_alike_151 : decode cX12_alike 151 = .ok (.goto (-26), 3) := by decide +kernel
theorem dX12_alike_154 : decode cX12_alike 154 = .ok (.aload 5, 2) := by decide +kernel
theorem dX12_alike_156 : decode cX12_alike 156 = .ok (.astore 6, 2) := by decide +kernel
theorem dX12_alike_158 : decode cX12_alike 158 = .ok (.aload 6, 2) := by decide +kernel
theorem dX12_alike_160 : decode cX12_alike 160 = .ok (.arraylength, 1) := by decide +kernel
theorem dX12_alike_161 : decode cX12_alike 161 = .ok (.istore 7, 2) := by decide +kernel
theorem dX12_alike_163 : decode cX12_alike 163 = .ok (.iconst 0, 1) := by decide +kernel
theorem dX12_alike_164 : decode cX12_alike 164 = .ok (.istore 8, 2) := by decide +kernel
theorem dX12_alike_166 : decode cX12_alike 166 = .ok (.iload 8, 2) := by decide +kernel
theorem dX12_alike_168 : decode cX12_alike 168 = .ok (.iload 7, 2) := by decide +kernel
theorem dX12_alike_170 : decode cX12_alike 170 = .ok (.if_icmp .ge 23, 3) := by decide +kernel
theorem dX12_alike_173 : decode cX12_alike 173 = .ok (.aload 6, 2) := by decide +kernel
theorem dX12_alike_175 : decode cX12_alike 175 = .ok (.iload 8, 2) := by decide +kernel
theorem dX12_alike_177 : decode cX12_alike 177 = .ok (.iaload, 1) := by decide +kernel
theorem dX12_alike_178 : decode cX12_alike 178 = .ok (.istore 9, 2) := by decide +kernel
theorem dX12_alike_180 : decode cX12_alike 180 = .ok (.iload 9, 2) := by decide +kernel
theorem dX12_alike_182 : decode cX12_alike 182 = .ok (.ifCond .eq 5, 3) := by decide +kernel
theorem dX12_alike_185 : decode cX12_alike 185 = .ok (.iconst 0, 1) := by decide +kernel
theorem dX12_alike_186 : decode cX12_alike 186 = .ok (.ireturn, 1) := by decide +kernel
theorem dX12_alike_187 : decode cX12_alike 187 = .ok (.iinc 8 1, 3) := by decide +kernel
theorem dX12_alike_190 : decode cX12_alike 190 = .ok (.goto (-24), 3) := by decide +kernel
theorem dX12_alike_193 : decode cX12_alike 193 = .ok (.iconst 1, 1) := by decide +kernel
theorem dX12_alike_194 : decode cX12_alike 194 = .ok (.ireturn, 1) := by decide +kernel
theorem dX12_digits_0 : decode cX12_digits 0 = .ok (.iconst 2, 1) := by decide +kernel
theorem dX12_digits_1 : decode cX12_digits 1 = .ok (.istore_n 1, 1) := by decide +kernel
theorem dX12_digits_2 : decode cX12_digits 2 = .ok (.iload_n 1, 1) := by decide +kernel
theorem dX12_digits_3 : decode cX12_digits 3 = .ok (.iconst 4, 1) := by decide +kernel
theorem dX12_digits_4 : decode cX12_digits 4 = .ok (.if_icmp .gt 23, 3) := by decide +kernel
theorem dX12_digits_7 : decode cX12_digits 7 = .ok (.iload_n 0, 1) := by decide +kernel
theorem dX12_digits_8 : decode cX12_digits 8 = .ok (.ifCond .le 13, 3) := by decide +kernel
theorem dX12_digits_11 : decode cX12_digits 11 = .ok (.iload_n 0, 1) := by decide +kernel
theorem dX12_digits_12 : decode cX12_digits 12 = .ok (.iload_n 1, 1) := by decide +kernel
theorem dX12_digits_13 : decode cX12_digits 13 = .ok (.invokestatic 283, 3) := by decide +kernel
theorem dX12_digits_16 : decode cX12_digits 16 = .ok (.ifCond .eq 5, 3) := by decide +kernel
theorem dX12_digits_19 : decode cX12_digits 19 = .ok (.iload_n 1, 1) := by decide +kernel
theorem dX12_digits_20 : decode cX12_digits 20 = .ok (.ireturn, 1) := by decide +kernel
theorem dX12_digits_21 : decode cX12_digits 21 = .ok (.iinc 1 1, 3) := by decide +kernel
theorem dX12_digits_24 : decode cX12_digits 24 = .ok (.goto (-22), 3) := by decide +kernel
theorem dX12_digits_27 : decode cX12_digits 27 = .ok (.iconst 0, 1) := by decide +kernel
theorem dX12_digits_28 : decode cX12_digits 28 = .ok (.ireturn, 1) := by decide +kernel
theorem dX12_contains_0 : decode cX12_contains 0 = .ok (.aload_n 0, 1) := by decide +kernel
theorem dX12_contains_1 : decode cX12_contains 1 = .ok (.aload_n 0, 1) := by decide +kernel
theorem dX12_contains_2 : decode cX12_contains 2 = .ok (.iconst 2, 1) := by decide +kernel
theorem dX12_contains_3 : decode cX12_contains 3 = .ok (.iload_n 1, 1) := by decide +kernel
theorem dX12_contains_4 : decode cX12_contains 4 = .ok (.invokevirtual 270, 3) := by decide +kernel
theorem dX12_contains_7 : decode cX12_contains 7 = .ok (.iconst 1, 1) := by decide +kernel
theorem dX12_contains_8 : decode cX12_contains 8 = .ok (.invokevirtual 186, 3) := by decide +kernel
theorem dX12_contains_11 : decode cX12_contains 11 = .ok (.ifCond .ne 23, 3) := by decide +kernel
theorem dX12_contains_14 : decode cX12_contains 14 = .ok (.aload_n 0, 1) := by decide +kernel
theorem dX12_contains_15 : decode cX12_contains 15 = .ok (.iload_n 2, 1) := by decide +kernel
theorem dX12_contains_16 : decode cX12_contains 16 = .ok (.invokestatic 286, 3) := by decide +kernel
theorem dX12_contains_19 : decode cX12_contains 19 = .ok (.ifCond .ne 7, 3) := by decide +kernel
theorem dX12_contains_22 : decode cX12_contains 22 = .ok (.iconst 1, 1) := by decide +kernel
theorem dX12_contains_23 : decode cX12_contains 23 = .ok (.goto 4, 3) := by decide +kernel
theorem dX12_contains_26 : decode cX12_contains 26 = .ok (.iconst 0, 1) := by decide +kernel
theorem dX12_contains_27 : decode cX12_contains 27 = .ok (.iconst 2, 1) := by decide +kernel
theorem dX12_contains_28 : decode cX12_contains 28 = .ok (.invokevirtual 45, 3) := by decide +kernel
theorem dX12_contains_31 : decode cX12_contains 31 = .ok (.ifCond .eq 5, 3) := by decide +kernel
theorem dX12_contains_34 : decode cX12_contains 34 = .ok (.iconst 0, 1) := by decide +kernel
theorem dX12_contains_35 : decode cX12_contains 35 = .ok (.ireturn, 1) := by decide +kernel
theorem dX12_contains_36 : decode cX12_contains 36 = .ok (.iload_n 2, 1) := by decide +kernel
theorem dX12_contains_37 : decode cX12_contains 37 = .ok (.invokestatic 286, 3) := by decide +kernel
theorem dX12_contains_40 : decode cX12_contains 40 = .ok (.istore_n 3, 1) := by decide +kernel
theorem dX12_contains_41 : decode cX12_contains 41 = .ok (.aload_n 0, 1) := by decide +kernel
theorem dX12_contains_42 : decode cX12_contains 42 = .ok (.aload_n 0, 1) := by decide +kernel
theorem dX12_contains_43 : decode cX12_contains 43 = .ok (.getfield 11, 3) := by decide +kernel
theorem dX12_contains_46 : decode cX12_contains 46 = .ok (.iconst 2, 1) := by decide +kernel
theorem dX12_contains_47 : decode cX12_contains 47 = .ok (.aaload, 1) := by decide +kernel
theorem dX12_contains_48 : decode cX12_contains 48 = .ok (.iload_n 1, 1) := by decide +kernel
theorem dX12_contains_49 : decode cX12_contains 49 = .ok (.iaload, 1) := by decide +kernel
theorem dX12_contains_50 : decode cX12_contains 50 = .ok (.invokevirtual 97, 3) := by decide +kernel
theorem dX12_contains_53 : decode cX12_contains 53 = .ok (.iconst 0, 1) := by decide +kernel
theorem dX12_contains_54 : decode cX12_contains 54 = .ok (.istore 4, 2) := by decide +kernel
theorem dX12_contains_56 : decode cX12_contains 56 = .ok (.iconst 0, 1) := by decide +kernel
theorem dX12_contains_57 : decode cX12_contains 57 = .ok (.istore 5, 2) := by decide +kernel
theorem dX12_contains_59 : decode cX12_contains 59 = .ok (.iload 5, 2) := by decide +kernel
theorem dX12_contains_61 : decode cX12_contains 61 = .ok (.iconst 1, 1) := by decide +kernel
theorem dX12_contains_62 : decode cX12_contains 62 = .ok (.aload_n 0, 1) := by decide +kernel
theorem dX12_contains_63 : decode cX12_contains 63 = .ok (.getfield 53, 3) := by decide +kernel
theorem dX12_contains_66 : decode cX12_contains 66 = .ok (.ishl, 1) := by decide +kernel
theorem dX12_contains_67 : decode cX12_contains 67 = .ok (.if_icmp .ge 32, 3) := by decide +kernel
theorem dX12_contains_70 : decode cX12_contains 70 = .ok (.iload 5, 2) := by decide +kernel
theorem dX12_contains_72 : decode cX12_contains 72 = .ok (.invokestatic 289, 3) := by decide +kernel
theorem dX12_contains_75 : decode cX12_contains 75 = .ok (.iload_n 3, 1) := by decide +kernel
theorem dX12_contains_76 : decode cX12_contains 76 = .ok (.if_icmp .ne 17, 3) := by decide +kernel
theorem dX12_contains_79 : decode cX12_contains 79 = .ok (.aload_n 0, 1) := by decide +kernel
theorem dX12_contains_80 : decode cX12_contains 80 = .ok (.iload 5, 2) := by decide +kernel
theorem dX12_contains_82 : decode cX12_contains 82 = .ok (.iload_n 2, 1) := by decide +kernel
theorem dX12_contains_83 : decode cX12_contains 83 = .ok (.iload_n 3, 1) := by decide +kernel
theorem dX12_contains_84 : decode cX12_contains 84 = .ok (.invokevirtual 292, 3) := by decide +kernel
theorem dX12_contains_87 : decode cX12_contains 87 = .ok (.ifCond .eq 6, 3) := by decide +kernel
theorem dX12_contains_90 : decode cX12_contains 90 = .ok (.iinc 4 1, 3) := by decide +kernel
theorem dX12_contains_93 : decode cX12_contains 93 = .ok (.iinc 5 1, 3) := by decide +kernel
theorem dX12_contains_96 : decode cX12_contains 96 = .ok (.goto (-37), 3) := by decide +kernel
theorem dX12_contains_99 : decode cX12_contains 99 = .ok (.iload 4, 2) := by decide +kernel
theorem dX12_contains_101 : decode cX12_contains 101 = .ok (.ireturn, 1) := by decide +kernel
theorem dX12_isLike_0 : decode cX12_isLike 0 = .ok (.iconst 0, 1) := by decide +kernel
theorem dX12_isLike_1 : decode cX12_isLike 1 = .ok (.istore 4, 2) := by decide +kernel
theorem dX12_isLike_3 : decode cX12_isLike 3 = .ok (.iconst 0, 1) := by decide +kernel
theorem dX12_isLike_4 : decode cX12_isLike 4 = .ok (.istore 5, 2) := by decide +kernel
theorem dX12_isLike_6 : decode cX12_isLike 6 = .ok (.iload 5, 2) := by decide +kernel
theorem dX12_isLike_8 : decode cX12_isLike 8 = .ok (.aload_n 0, 1) := by decide +kernel
theorem dX12_isLike_9 : decode cX12_isLike 9 = .ok (.getfield 53, 3) := by decide +kernel
theorem dX12_isLike_12 : decode cX12_isLike 12 = .ok (.if_icmp .ge 36, 3) := by decide +kernel
theorem dX12_isLike_15 : decode cX12_isLike 15 = .ok (.iload_n 1, 1) := by decide +kernel
theorem dX12_isLike_16 : decode cX12_isLike 16 = .ok (.iload 5, 2) := by decide +kernel
theorem dX12_isLike_18 : decode cX12_isLike 18 = .ok (.ishr, 1) := by decide +kernel
theorem dX12_isLike_19 : decode cX12_isLike 19 = .ok (.iconst 1, 1) := by decide +kernel
theorem dX12_isLike_20 : decode cX12_isLike 20 = .ok (.iand, 1) := by decide +kernel
theorem dX12_isLike_21 : decode cX12_isLike 21 = .ok (.iconst 1, 1) := by decide +kernel
theorem dX12_isLike_22 : decode cX12_isLike 22 = .ok (.if_icmp .ne 20, 3) := by decide +kernel
theorem dX12_isLike_25 : decode cX12_isLike 25 = .ok (.aload_n 0, 1) := by decide +kernel
theorem dX12_isLike_26 : decode cX12_isLike 26 = .ok (.getfield 31, 3) := by decide +kernel
theorem dX12_isLike_29 : decode cX12_isLike 29 = .ok (.iload 4, 2) := by decide +kernel
theorem dX12_isLike_31 : decode cX12_isLike 31 = .ok (.iinc 4 1, 3) := by decide +kernel
theorem dX12_isLike_34 : decode cX12_isLike 34 = .ok (.aload_n 0, 1) := by decide +kernel
theorem dX12_isLike_35 : decode cX12_isLike 35 = .ok (.getfield 28, 3) := by decide +kernel
theorem dX12_isLike_38 : decode cX12_isLike 38 = .ok (.iload 5, 2) := by decide +kernel
theorem dX12_isLike_40 : decode cX12_isLike 40 = .ok (.iaload, 1) := by decide +kernel
theorem dX12_isLike_41 : decode cX12_isLike 41 = .ok (.iastore, 1) := by decide +kernel
theorem dX12_isLike_42 : decode cX12_isLike 42 = .ok (.iinc 5 1, 3) := by decide +kernel
theorem dX12_isLike_45 : decode cX12_isLike 45 = .ok (.goto (-39), 3) := by decide +kernel
theorem dX12_isLike_48 : decode cX12_isLike 48 = .ok (.iconst 0, 1) := by decide +kernel
theorem dX12_isLike_49 : decode cX12_isLike 49 = .ok (.istore 5, 2) := by decide +kernel
theorem dX12_isLike_51 : decode cX12_isLike 51 = .ok (.iload 5, 2) := by decide +kernel
theorem dX12_isLike_53 : decode cX12_isLike 53 = .ok (.iload_n 3, 1) := by decide +kernel
theorem dX12_isLike_54 : decode cX12_isLike 54 = .ok (.if_icmp .ge 92, 3) := by decide +kernel
theorem dX12_isLike_57 : decode cX12_isLike 57 = .ok (.iconst 0, 1) := by decide +kernel
theorem dX12_isLike_58 : decode cX12_isLike 58 = .ok (.istore 6, 2) := by decide +kernel
theorem dX12_isLike_60 : decode cX12_isLike 60 = .ok (.iload 6, 2) := by decide +kernel
theorem dX12_isLike_62 : decode cX12_isLike 62 = .ok (.iload 5, 2) := by decide +kernel
theorem dX12_isLike_64 : decode cX12_isLike 64 = .ok (.if_icmp .ge 76, 3) := by decide +kernel
theorem dX12_isLike_67 : decode cX12_isLike 67 = .ok (.iload_n 2, 1) := by decide +kernel
theorem dX12_isLike_68 : decode cX12_isLike 68 = .ok (.iload_n 3, 1) := by decide +kernel
theorem dX12_isLike_69 : decode cX12_isLike 69 = .ok (.iconst 1, 1) := by decide +kernel
theorem dX12_isLike_70 : decode cX12_isLike 70 = .ok (.isub, 1) := by decide +kernel
theorem dX12_isLike_71 : decode cX12_isLike 71 = .ok (.iload 6, 2) := by decide +kernel
theorem dX12_isLike_73 : decode cX12_isLike 73 = .ok (.isub, 1) := by decide +kernel
theorem dX12_isLike_74 : decode cX12_isLike 74 = .ok (.invokestatic 49, 3) := by decide +kernel
theorem dX12_isLike_77 : decode cX12_isLike 77 = .ok (.idiv, 1) := by decide +kernel
theorem dX12_isLike_78 : decode cX12_isLike 78 = .ok (.bipush 10, 2) := by decide +kernel
theorem dX12_isLike_80 : decode cX12_isLike 80 = .ok (.irem, 1) := by decide +kernel
theorem dX12_isLike_81 : decode cX12_isLike 81 = .ok (.iload_n 2, 1) := by decide +kernel
theorem dX12_isLike_82 : decode cX12_isLike 82 = .ok (.iload_n 3, 1) := by decide +kernel
theorem dX12_isLike_83 : decode cX12_isLike 83 = .ok (.iconst 1, 1) := by decide +kernel
theorem dX12_isLike_84 : decode cX12_isLike 84 = .ok (.isub, 1) := by decide +kernel
theorem dX12_isLike_85 : decode cX12_isLike 85 = .ok (.iload 5, 2) := by decide +kernel
theorem dX12_isLike_87 : decode cX12_isLike 87 = .ok (.isub, 1) := by decide +kernel
theorem dX12_isLike_88 : decode cX12_isLike 88 = .ok (.invokestatic 49, 3) := by decide +kernel
theorem dX12_isLike_91 : decode cX12_isLike 91 = .ok (.idiv, 1) := by decide +kernel
theorem dX12_isLike_92 : decode cX12_isLike 92 = .ok (.bipush 10, 2) := by decide +kernel
theorem dX12_isLike_94 : decode cX12_isLike 94 = .ok (.irem, 1) := by decide +kernel
theorem dX12_isLike_95 : decode cX12_isLike 95 = .ok (.if_icmp .ge 7, 3) := by decide +kernel
theorem dX12_isLike_98 : decode cX12_isLike 98 = .ok (.iconst 1, 1) := by decide +kernel
theorem dX12_isLike_99 : decode cX12_isLike 99 = .ok (.goto 4, 3) := by decide +kernel
theorem dX12_isLike_102 : decode cX12_isLike 102 = .ok (.iconst 0, 1) := by decide +kernel
theorem dX12_isLike_103 : decode cX12_isLike 103 = .ok (.istore 7, 2) := by decide +kernel
theorem dX12_isLike_105 : decode cX12_isLike 105 = .ok (.iload 7, 2) := by decide +kernel
theorem dX12_isLike_107 : decode cX12_isLike 107 = .ok (.aload_n 0, 1) := by decide +kernel
theorem dX12_isLike_108 : decode cX12_isLike 108 = .ok (.getfield 31, 3) := by decide +kernel
theorem dX12_isLike_111 : decode cX12_isLike 111 = .ok (.iload 6, 2) := by decide +kernel
theorem dX12_isLike_113 : decode cX12_isLike 113 = .ok (.iaload, 1) := by decide +kernel
theorem dX12_isLike_114 : decode cX12_isLike 114 = .ok (.aload_n 0, 1) := by decide +kernel
theorem dX12_isLike_115 : decode cX12_isLike 115 = .ok (.getfield 31, 3) := by decide +kernel
theorem dX12_isLike_118 : decode cX12_isLike 118 = .ok (.iload 5, 2) := by decide +kernel
theorem dX12_isLike_120 : decode cX12_isLike 120 = .ok (.iaload, 1) := by decide +kernel
theorem dX12_isLike_121 : decode cX12_isLike 121 = .ok (.if_icmp .ge 7, 3) := by decide +kernel
theorem dX12_isLike_124 : decode cX12_isLike 124 = .ok (.iconst 1, 1) := by decide +kernel
theorem dX12_isLike_125 : decode cX12_isLike 125 = .ok (.goto 4, 3) := by decide +kernel
theorem dX12_isLike_128 : decode cX12_isLike 128 = .ok (.iconst 0, 1) := by decide +kernel
theorem dX12_isLike_129 : decode cX12_isLike 129 = .ok (.if_icmp .eq 5, 3) := by decide +kernel
theorem dX12_isLike_132 : decode cX12_isLike 132 = .ok (.iconst 0, 1) := by decide +kernel
theorem dX12_isLike_133 : decode cX12_isLike 133 = .ok (.ireturn, 1) := by decide +kernel
theorem dX12_isLike_134 : decode cX12_isLike 134 = .ok (.iinc 6 1, 3) := by decide +kernel
theorem dX12_isLike_137 : decode cX12_isLike 137 = .ok (.goto (-77), 3) := by decide +kernel
theorem dX12_isLike_140 : decode cX12_isLike 140 = .ok (.iinc 5 1, 3) := by decide +kernel
theorem dX12_isLike_143 : decode cX12_isLike 143 = .ok (.goto (-92), 3) := by decide +kernel
theorem dX12_isLike_146 : decode cX12_isLike 146 = .ok (.iconst 1, 1) := by decide +kernel
theorem dX12_isLike_147 : decode cX12_isLike 147 = .ok (.ireturn, 1) := by decide +kernel
theorem dX12_sortedNow_0 : decode cX12_sortedNow 0 = .ok (.iconst 0, 1) := by decide +kernel
theorem dX12_sortedNow_1 : decode cX12_sortedNow 1 = .ok (.istore_n 2, 1) := by decide +kernel
theorem dX12_sortedNow_2 : decode cX12_sortedNow 2 = .ok (.aload_n 0, 1) := by decide +kernel
theorem dX12_sortedNow_3 : decode cX12_sortedNow 3 = .ok (.getfield 11, 3) := by decide +kernel
theorem dX12_sortedNow_6 : decode cX12_sortedNow 6 = .ok (.iconst 2, 1) := by decide +kernel
theorem dX12_sortedNow_7 : decode cX12_sortedNow 7 = .ok (.aaload, 1) := by decide +kernel
theorem dX12_sortedNow_8 : decode cX12_sortedNow 8 = .ok (.astore_n 3, 1) := by decide +kernel
theorem dX12_sortedNow_9 : decode cX12_sortedNow 9 = .ok (.aload_n 3, 1) := by decide +kernel
theorem dX12_sortedNow_10 : decode cX12_sortedNow 10 = .ok (.arraylength, 1) := by decide +kernel
theorem dX12_sortedNow_11 : decode cX12_sortedNow 11 = .ok (.istore 4, 2) := by decide +kernel
theorem dX12_sortedNow_13 : decode cX12_sortedNow 13 = .ok (.iconst 0, 1) := by decide +kernel
theorem dX12_sortedNow_14 : decode cX12_sortedNow 14 = .ok (.istore 5, 2) := by decide +kernel
theorem dX12_sortedNow_16 : decode cX12_sortedNow 16 = .ok (.iload 5, 2) := by decide +kernel
theorem dX12_sortedNow_18 : decode cX12_sortedNow 18 = .ok (.iload 4, 2) := by decide +kernel
theorem dX12_sortedNow_20 : decode cX12_sortedNow 20 = .ok (.if_icmp .ge 63, 3) := by decide +kernel
theorem dX12_sortedNow_23 : decode cX12_sortedNow 23 = .ok (.aload_n 3, 1) := by decide +kernel
theorem dX12_sortedNow_24 : decode cX12_sortedNow 24 = .ok (.iload 5, 2) := by decide +kernel
theorem dX12_sortedNow_26 : decode cX12_sortedNow 26 = .ok (.iaload, 1) := by decide +kernel
theorem dX12_sortedNow_27 : decode cX12_sortedNow 27 = .ok (.istore 6, 2) := by decide +kernel
theorem dX12_sortedNow_29 : decode cX12_sortedNow 29 = .ok (.iload 6, 2) := by decide +kernel
theorem dX12_sortedNow_31 : decode cX12_sortedNow 31 = .ok (.istore 7, 2) := by decide +kernel
theorem dX12_sortedNow_33 : decode cX12_sortedNow 33 = .ok (.iconst 0, 1) := by decide +kernel
theorem dX12_sortedNow_34 : decode cX12_sortedNow 34 = .ok (.istore 8, 2) := by decide +kernel
theorem dX12_sortedNow_36 : decode cX12_sortedNow 36 = .ok (.iload 8, 2) := by decide +kernel
theorem dX12_sortedNow_38 : decode cX12_sortedNow 38 = .ok (.iload_n 1, 1) := by decide +kernel
theorem dX12_sortedNow_39 : decode cX12_sortedNow 39 = .ok (.if_icmp .ge 17, 3) := by decide +kernel
theorem dX12_sortedNow_42 : decode cX12_sortedNow 42 = .ok (.aload_n 0, 1) := by decide +kernel
theorem dX12_sortedNow_43 : decode cX12_sortedNow 43 = .ok (.iload 7, 2) := by decide +kernel
theorem dX12_sortedNow_45 : decode cX12_sortedNow 45 = .ok (.invokevirtual 116, 3) := by decide +kernel
theorem dX12_sortedNow_48 : decode cX12_sortedNow 48 = .ok (.istore 7, 2) := by decide +kernel
theorem dX12_sortedNow_50 : decode cX12_sortedNow 50 = .ok (.iinc 8 1, 3) := by decide +kernel
theorem dX12_sortedNow_53 : decode cX12_sortedNow 53 = .ok (.goto (-17), 3) := by decide +kernel
theorem dX12_sortedNow_56 : decode cX12_sortedNow 56 = .ok (.iload_n 2, 1) := by decide +kernel
theorem dX12_sortedNow_57 : decode cX12_sortedNow 57 = .ok (.iload 7, 2) := by decide +kernel
theorem dX12_sortedNow_59 : decode cX12_sortedNow 59 = .ok (.aload_n 0, 1) := by decide +kernel
theorem dX12_sortedNow_60 : decode cX12_sortedNow 60 = .ok (.getfield 11, 3) := by decide +kernel
theorem dX12_sortedNow_63 : decode cX12_sortedNow 63 = .ok (.iconst 2, 1) := by decide +kernel
theorem dX12_sortedNow_64 : decode cX12_sortedNow 64 = .ok (.aaload, 1) := by decide +kernel
theorem dX12_sortedNow_65 : decode cX12_sortedNow 65 = .ok (.iconst 0, 1) := by decide +kernel
theorem dX12_sortedNow_66 : decode cX12_sortedNow 66 = .ok (.iaload, 1) := by decide +kernel
theorem dX12_sortedNow_67 : decode cX12_sortedNow 67 = .ok (.if_icmp .ne 7, 3) := by decide +kernel
theorem dX12_sortedNow_70 : decode cX12_sortedNow 70 = .ok (.iconst 1, 1) := by decide +kernel
theorem dX12_sortedNow_71 : decode cX12_sortedNow 71 = .ok (.goto 4, 3) := by decide +kernel
theorem dX12_sortedNow_74 : decode cX12_sortedNow 74 = .ok (.iconst 0, 1) := by decide +kernel
theorem dX12_sortedNow_75 : decode cX12_sortedNow 75 = .ok (.iadd, 1) := by decide +kernel
theorem dX12_sortedNow_76 : decode cX12_sortedNow 76 = .ok (.istore_n 2, 1) := by decide +kernel
theorem dX12_sortedNow_77 : decode cX12_sortedNow 77 = .ok (.iinc 5 1, 3) := by decide +kernel
theorem dX12_sortedNow_80 : decode cX12_sortedNow 80 = .ok (.goto (-64), 3) := by decide +kernel
theorem dX12_sortedNow_83 : decode cX12_sortedNow 83 = .ok (.iload_n 2, 1) := by decide +kernel
theorem dX12_sortedNow_84 : decode cX12_sortedNow 84 = .ok (.ireturn, 1) := by decide +kernel
theorem dX12_sorted_0 : decode cX12_sorted 0 = .ok (.aload_n 0, 1) := by decide +kernel
theorem dX12_sorted_1 : decode cX12_sorted 1 = .ok (.iload_n 1, 1) := by decide +kernel
theorem dX12_sorted_2 : decode cX12_sorted 2 = .ok (.iconst 0, 1) := by decide +kernel
theorem dX12_sorted_3 : decode cX12_sorted 3 = .ok (.bipush 6, 2) := by decide +kernel
theorem dX12_sorted_5 : decode cX12_sorted 5 = .ok (.invokestatic 182, 3) := by decide +kernel
theorem dX12_sorted_8 : decode cX12_sorted 8 = .ok (.ifCond .ne 7, 3) := by decide +kernel
theorem dX12_sorted_11 : decode cX12_sorted 11 = .ok (.iconst 1, 1) := by decide +kernel
theorem dX12_sorted_12 : decode cX12_sorted 12 = .ok (.goto 4, 3) := by decide +kernel
theorem dX12_sorted_15 : decode cX12_sorted 15 = .ok (.iconst 0, 1) := by decide +kernel
theorem dX12_sorted_16 : decode cX12_sorted 16 = .ok (.iconst 1, 1) := by decide +kernel
theorem dX12_sorted_17 : decode cX12_sorted 17 = .ok (.invokevirtual 186, 3) := by decide +kernel
theorem dX12_sorted_20 : decode cX12_sorted 20 = .ok (.ifCond .eq 7, 3) := by decide +kernel
theorem dX12_sorted_23 : decode cX12_sorted 23 = .ok (.iconst 0, 1) := by decide +kernel
theorem dX12_sorted_24 : decode cX12_sorted 24 = .ok (.goto 8, 3) := by decide +kernel
theorem dX12_sorted_27 : decode cX12_sorted 27 = .ok (.aload_n 0, 1) := by decide +kernel
theorem dX12_sorted_28 : decode cX12_sorted 28 = .ok (.iload_n 1, 1) := by decide +kernel
theorem dX12_sorted_29 : decode cX12_sorted 29 = .ok (.invokevirtual 295, 3) := by decide +kernel
theorem dX12_sorted_32 : decode cX12_sorted 32 = .ok (.ireturn, 1) := by decide +kernel
theorem dX12_ofMap_0 : decode cX12_ofMap 0 = .ok (.aload_n 0, 1) := by decide +kernel
theorem dX12_ofMap_1 : decode cX12_ofMap 1 = .ok (.aload_n 0, 1) := by decide +kernel
theorem dX12_ofMap_2 : decode cX12_ofMap 2 = .ok (.iload_n 1, 1) := by decide +kernel
theorem dX12_ofMap_3 : decode cX12_ofMap 3 = .ok (.invokevirtual 205, 3) := by decide +kernel
theorem dX12_ofMap_6 : decode cX12_ofMap 6 = .ok (.iconst 1, 1) := by decide +kernel
theorem dX12_ofMap_7 : decode cX12_ofMap 7 = .ok (.invokevirtual 186, 3) := by decide +kernel
theorem dX12_ofMap_10 : decode cX12_ofMap 10 = .ok (.ifCond .ne 26, 3) := by decide +kernel
theorem dX12_ofMap_13 : decode cX12_ofMap 13 = .ok (.aload_n 0, 1) := by decide +kernel
theorem dX12_ofMap_14 : decode cX12_ofMap 14 = .ok (.iload_n 2, 1) := by decide +kernel
theorem dX12_ofMap_15 : decode cX12_ofMap 15 = .ok (.iconst 0, 1) := by decide +kernel
theorem dX12_ofMap_16 : decode cX12_ofMap 16 = .ok (.bipush 7, 2) := by decide +kernel
theorem dX12_ofMap_18 : decode cX12_ofMap 18 = .ok (.invokestatic 182, 3) := by decide +kernel
theorem dX12_ofMap_21 : decode cX12_ofMap 21 = .ok (.ifCond .ne 7, 3) := by decide +kernel
theorem dX12_ofMap_24 : decode cX12_ofMap 24 = .ok (.iconst 1, 1) := by decide +kernel
theorem dX12_ofMap_25 : decode cX12_ofMap 25 = .ok (.goto 4, 3) := by decide +kernel
theorem dX12_ofMap_28 : decode cX12_ofMap 28 = .ok (.iconst 0, 1) := by decide +kernel
theorem dX12_ofMap_29 : decode cX12_ofMap 29 = .ok (.iconst 2, 1) := by decide +kernel
theorem dX12_ofMap_30 : decode cX12_ofMap 30 = .ok (.invokevirtual 45, 3) := by decide +kernel
theorem dX12_ofMap_33 : decode cX12_ofMap 33 = .ok (.ifCond .eq 7, 3) := by decide +kernel
theorem dX12_ofMap_36 : decode cX12_ofMap 36 = .ok (.iconst 0, 1) := by decide +kernel
theorem dX12_ofMap_37 : decode cX12_ofMap 37 = .ok (.goto 14, 3) := by decide +kernel
theorem dX12_ofMap_40 : decode cX12_ofMap 40 = .ok (.aload_n 0, 1) := by decide +kernel
theorem dX12_ofMap_41 : decode cX12_ofMap 41 = .ok (.iload_n 1, 1) := by decide +kernel
theorem dX12_ofMap_42 : decode cX12_ofMap 42 = .ok (.iload_n 2, 1) := by decide +kernel
theorem dX12_ofMap_43 : decode cX12_ofMap 43 = .ok (.aload_n 0, 1) := by decide +kernel
theorem dX12_ofMap_44 : decode cX12_ofMap 44 = .ok (.iload_n 1, 1) := by decide +kernel
theorem dX12_ofMap_45 : decode cX12_ofMap 45 = .ok (.invokevirtual 305, 3) := by decide +kernel
theorem dX12_ofMap_48 : decode cX12_ofMap 48 = .ok (.invokevirtual 309, 3) := by decide +kernel
theorem dX12_ofMap_51 : decode cX12_ofMap 51 = .ok (.ireturn, 1) := by decide +kernel
theorem dX12_image_0 : decode cX12_image 0 = .ok (.aload_n 0, 1) := by decide +kernel
theorem dX12_image_1 : decode cX12_image 1 = .ok (.aload_n 0, 1) := by decide +kernel
theorem dX12_image_2 : decode cX12_image 2 = .ok (.iload_n 1, 1) := by decide +kernel
theorem dX12_image_3 : decode cX12_image 3 = .ok (.invokevirtual 205, 3) := by decide +kernel
theorem dX12_image_6 : decode cX12_image 6 = .ok (.iconst 1, 1) := by decide +kernel
theorem dX12_image_7 : decode cX12_image 7 = .ok (.invokevirtual 186, 3) := by decide +kernel
theorem dX12_image_10 : decode cX12_image 10 = .ok (.ifCond .ne 21, 3) := by decide +kernel
theorem dX12_image_13 : decode cX12_image 13 = .ok (.aload_n 0, 1) := by decide +kernel
theorem dX12_image_14 : decode cX12_image 14 = .ok (.aload_n 0, 1) := by decide +kernel
theorem dX12_image_15 : decode cX12_image 15 = .ok (.aload_n 0, 1) := by decide +kernel
theorem dX12_image_16 : decode cX12_image 16 = .ok (.iload_n 1, 1) := by decide +kernel
theorem dX12_image_17 : decode cX12_image 17 = .ok (.invokevirtual 136, 3) := by decide +kernel
theorem dX12_image_20 : decode cX12_image 20 = .ok (.iload_n 2, 1) := by decide +kernel
theorem dX12_image_21 : decode cX12_image 21 = .ok (.invokevirtual 270, 3) := by decide +kernel
theorem dX12_image_24 : decode cX12_image 24 = .ok (.iconst 1, 1) := by decide +kernel
theorem dX12_image_25 : decode cX12_image 25 = .ok (.invokevirtual 45, 3) := by decide +kernel
theorem dX12_image_28 : decode cX12_image 28 = .ok (.ifCond .eq 5, 3) := by decide +kernel
theorem dX12_image_31 : decode cX12_image 31 = .ok (.iconst 0, 1) := by decide +kernel
theorem dX12_image_32 : decode cX12_image 32 = .ok (.ireturn, 1) := by decide +kernel
theorem dX12_image_33 : decode cX12_image 33 = .ok (.aload_n 0, 1) := by decide +kernel
theorem dX12_image_34 : decode cX12_image 34 = .ok (.aload_n 0, 1) := by decide +kernel
theorem dX12_image_35 : decode cX12_image 35 = .ok (.iload_n 1, 1) := by decide +kernel
theorem dX12_image_36 : decode cX12_image 36 = .ok (.invokevirtual 139, 3) := by decide +kernel
theorem dX12_image_39 : decode cX12_image 39 = .ok (.aload_n 0, 1) := by decide +kernel
theorem dX12_image_40 : decode cX12_image 40 = .ok (.iload_n 1, 1) := by decide +kernel
theorem dX12_image_41 : decode cX12_image 41 = .ok (.aload_n 0, 1) := by decide +kernel
theorem dX12_image_42 : decode cX12_image 42 = .ok (.getfield 11, 3) := by decide +kernel
theorem dX12_image_45 : decode cX12_image 45 = .ok (.aload_n 0, 1) := by decide +kernel
theorem dX12_image_46 : decode cX12_image 46 = .ok (.iload_n 1, 1) := by decide +kernel
theorem dX12_image_47 : decode cX12_image 47 = .ok (.invokevirtual 136, 3) := by decide +kernel
theorem dX12_image_50 : decode cX12_image 50 = .ok (.aaload, 1) := by decide +kernel
theorem dX12_image_51 : decode cX12_image 51 = .ok (.iload_n 2, 1) := by decide +kernel
theorem dX12_image_52 : decode cX12_image 52 = .ok (.iaload, 1) := by decide +kernel
theorem dX12_image_53 : decode cX12_image 53 = .ok (.invokevirtual 159, 3) := by decide +kernel
theorem dX12_image_56 : decode cX12_image 56 = .ok (.invokevirtual 162, 3) := by decide +kernel
theorem dX12_image_59 : decode cX12_image 59 = .ok (.ireturn, 1) := by decide +kernel
theorem dX12_source_0 : decode cX12_source 0 = .ok (.aload_n 0, 1) := by decide +kernel
theorem dX12_source_1 : decode cX12_source 1 = .ok (.aload_n 0, 1) := by decide +kernel
theorem dX12_source_2 : decode cX12_source 2 = .ok (.iload_n 1, 1) := by decide +kernel
theorem dX12_source_3 : decode cX12_source 3 = .ok (.invokevirtual 205, 3) := by decide +kernel
theorem dX12_source_6 : decode cX12_source 6 = .ok (.iconst 1, 1) := by decide +kernel
theorem dX12_source_7 : decode cX12_source 7 = .ok (.invokevirtual 186, 3) := by decide +kernel
theorem dX12_source_10 : decode cX12_source 10 = .ok (.ifCond .ne 21, 3) := by decide +kernel
theorem dX12_source_13 : decode cX12_source 13 = .ok (.aload_n 0, 1) := by decide +kernel
theorem dX12_source_14 : decode cX12_source 14 = .ok (.aload_n 0, 1) := by decide +kernel
theorem dX12_source_15 : decode cX12_source 15 = .ok (.aload_n 0, 1) := by decide +kernel
theorem dX12_source_16 : decode cX12_source 16 = .ok (.iload_n 1, 1) := by decide +kernel
theorem dX12_source_17 : decode cX12_source 17 = .ok (.invokevirtual 139, 3) := by decide +kernel
theorem dX12_source_20 : decode cX12_source 20 = .ok (.iload_n 2, 1) := by decide +kernel
theorem dX12_source_21 : decode cX12_source 21 = .ok (.invokevirtual 270, 3) := by decide +kernel
theorem dX12_source_24 : decode cX12_source 24 = .ok (.iconst 1, 1) := by decide +kernel
theorem dX12_source_25 : decode cX12_source 25 = .ok (.invokevirtual 45, 3) := by decide +kernel
theorem dX12_source_28 : decode cX12_source 28 = .ok (.ifCond .eq 5, 3) := by decide +kernel
theorem dX12_source_31 : decode cX12_source 31 = .ok (.iconst 0, 1) := by decide +kernel
theorem dX12_source_32 : decode cX12_source 32 = .ok (.ireturn, 1) := by decide +kernel
theorem dX12_source_33 : decode cX12_source 33 = .ok (.aload_n 0, 1) := by decide +kernel
theorem dX12_source_34 : decode cX12_source 34 = .ok (.iload_n 1, 1) := by decide +kernel
theorem dX12_source_35 : decode cX12_source 35 = .ok (.invokevirtual 305, 3) := by decide +kernel
theorem dX12_source_38 : decode cX12_source 38 = .ok (.astore_n 3, 1) := by decide +kernel
theorem dX12_source_39 : decode cX12_source 39 = .ok (.iconst 0, 1) := by decide +kernel
theorem dX12_source_40 : decode cX12_source 40 = .ok (.istore 4, 2) := by decide +kernel
theorem dX12_source_42 : decode cX12_source 42 = .ok (.iload 4, 2) := by decide +kernel
theorem dX12_source_44 : decode cX12_source 44 = .ok (.aload_n 3, 1) := by decide +kernel
theorem dX12_source_45 : decode cX12_source 45 = .ok (.arraylength, 1) := by decide +kernel
theorem dX12_source_46 : decode cX12_source 46 = .ok (.if_icmp .ge 20, 3) := by decide +kernel
theorem dX12_source_49 : decode cX12_source 49 = .ok (.aload_n 3, 1) := by decide +kernel
theorem dX12_source_50 : decode cX12_source 50 = .ok (.iload 4, 2) := by decide +kernel
theorem dX12_source_52 : decode cX12_source 52 = .ok (.iaload, 1) := by decide +kernel
theorem dX12_source_53 : decode cX12_source 53 = .ok (.iload_n 2, 1) := by decide +kernel
theorem dX12_source_54 : decode cX12_source 54 = .ok (.if_icmp .ne 6, 3) := by decide +kernel
theorem dX12_source_57 : decode cX12_source 57 = .ok (.iload 4, 2) := by decide +kernel
theorem dX12_source_59 : decode cX12_source 59 = .ok (.ireturn, 1) := by decide +kernel
theorem dX12_source_60 : decode cX12_source 60 = .ok (.iinc 4 1, 3) := by decide +kernel
theorem dX12_source_63 : decode cX12_source 63 = .ok (.goto (-21), 3) := by decide +kernel
theorem dX12_source_66 : decode cX12_source 66 = .ok (.iconst (-1), 1) := by decide +kernel
theorem dX12_source_67 : decode cX12_source 67 = .ok (.ireturn, 1) := by decide +kernel
theorem dX12_rounds__0 : decode cX12_rounds_ 0 = .ok (.aload_n 0, 1) := by decide +kernel
theorem dX12_rounds__1 : decode cX12_rounds_ 1 = .ok (.aload_n 0, 1) := by decide +kernel
theorem dX12_rounds__2 : decode cX12_rounds_ 2 = .ok (.iload_n 1, 1) := by decide +kernel
theorem dX12_rounds__3 : decode cX12_rounds_ 3 = .ok (.invokevirtual 205, 3) := by decide +kernel
theorem dX12_rounds__6 : decode cX12_rounds_ 6 = .ok (.iconst 1, 1) := by decide +kernel
theorem dX12_rounds__7 : decode cX12_rounds_ 7 = .ok (.invokevirtual 186, 3) := by decide +kernel
theorem dX12_rounds__10 : decode cX12_rounds_ 10 = .ok (.ifCond .eq 7, 3) := by decide +kernel
theorem dX12_rounds__13 : decode cX12_rounds_ 13 = .ok (.iconst 0, 1) := by decide +kernel
theorem dX12_rounds__14 : decode cX12_rounds_ 14 = .ok (.goto 15, 3) := by decide +kernel
theorem dX12_rounds__17 : decode cX12_rounds_ 17 = .ok (.aload_n 0, 1) := by decide +kernel
theorem dX12_rounds__18 : decode cX12_rounds_ 18 = .ok (.iload_n 1, 1) := by decide +kernel
theorem dX12_rounds__19 : decode cX12_rounds_ 19 = .ok (.iconst 0, 1) := by decide +kernel
theorem dX12_rounds__20 : decode cX12_rounds_ 20 = .ok (.aload_n 0, 1) := by decide +kernel
theorem dX12_rounds__21 : decode cX12_rounds_ 21 = .ok (.iload_n 1, 1) := by decide +kernel
theorem dX12_rounds__22 : decode cX12_rounds_ 22 = .ok (.invokevirtual 305, 3) := by decide +kernel
theorem dX12_rounds__25 : decode cX12_rounds_ 25 = .ok (.invokevirtual 323, 3) := by decide +kernel
theorem dX12_rounds__28 : decode cX12_rounds_ 28 = .ok (.l2i, 1) := by decide +kernel
theorem dX12_rounds__29 : decode cX12_rounds_ 29 = .ok (.ireturn, 1) := by decide +kernel
theorem dX12_period_0 : decode cX12_period 0 = .ok (.aload_n 0, 1) := by decide +kernel
theorem dX12_period_1 : decode cX12_period 1 = .ok (.aload_n 0, 1) := by decide +kernel
theorem dX12_period_2 : decode cX12_period 2 = .ok (.iload_n 1, 1) := by decide +kernel
theorem dX12_period_3 : decode cX12_period 3 = .ok (.invokevirtual 205, 3) := by decide +kernel
theorem dX12_period_6 : decode cX12_period 6 = .ok (.iconst 1, 1) := by decide +kernel
theorem dX12_period_7 : decode cX12_period 7 = .ok (.invokevirtual 186, 3) := by decide +kernel
theorem dX12_period_10 : decode cX12_period 10 = .ok (.ifCond .eq 7, 3) := by decide +kernel
theorem dX12_period_13 : decode cX12_period 13 = .ok (.lconst 0, 1) := by decide +kernel
theorem dX12_period_14 : decode cX12_period 14 = .ok (.goto 14, 3) := by decide +kernel
theorem dX12_period_17 : decode cX12_period 17 = .ok (.aload_n 0, 1) := by decide +kernel
theorem dX12_period_18 : decode cX12_period 18 = .ok (.iload_n 1, 1) := by decide +kernel
theorem dX12_period_19 : decode cX12_period 19 = .ok (.iconst 1, 1) := by decide +kernel
theorem dX12_period_20 : decode cX12_period 20 = .ok (.aload_n 0, 1) := by decide +kernel
theorem dX12_period_21 : decode cX12_period 21 = .ok (.iload_n 1, 1) := by decide +kernel
theorem dX12_period_22 : decode cX12_period 22 = .ok (.invokevirtual 305, 3) := by decide +kernel
theorem dX12_period_25 : decode cX12_period 25 = .ok (.invokevirtual 323, 3) := by decide +kernel
theorem dX12_period_28 : decode cX12_period 28 = .ok (.lreturn, 1) := by decide +kernel
theorem dX12_against_0 : decode cX12_against 0 = .ok (.aload_n 0, 1) := by decide +kernel
theorem dX12_against_1 : decode cX12_against 1 = .ok (.aload_n 0, 1) := by decide +kernel
theorem dX12_against_2 : decode cX12_against 2 = .ok (.iload_n 1, 1) := by decide +kernel
theorem dX12_against_3 : decode cX12_against 3 = .ok (.invokevirtual 205, 3) := by decide +kernel
theorem dX12_against_6 : decode cX12_against 6 = .ok (.iconst 1, 1) := by decide +kernel
theorem dX12_against_7 : decode cX12_against 7 = .ok (.invokevirtual 186, 3) := by decide +kernel
theorem dX12_against_10 : decode cX12_against 10 = .ok (.ifCond .ne 30, 3) := by decide +kernel
theorem dX12_against_13 : decode cX12_against 13 = .ok (.aload_n 0, 1) := by decide +kernel
theorem dX12_against_14 : decode cX12_against 14 = .ok (.iload_n 2, 1) := by decide +kernel
theorem dX12_against_15 : decode cX12_against 15 = .ok (.invokestatic 238, 3) := by decide +kernel
theorem dX12_against_18 : decode cX12_against 18 = .ok (.ifCond .ne 10, 3) := by decide +kernel
theorem dX12_against_21 : decode cX12_against 21 = .ok (.iload_n 3, 1) := by decide +kernel
theorem dX12_against_22 : decode cX12_against 22 = .ok (.invokestatic 238, 3) := by decide +kernel
theorem dX12_against_25 : decode cX12_against 25 = .ok (.ifCond .eq 7, 3) := by decide +kernel
theorem dX12_against_28 : decode cX12_against 28 = .ok (.iconst 1, 1) := by decide +kernel
theorem dX12_against_29 : decode cX12_against 29 = .ok (.goto 4, 3) := by decide +kernel
theorem dX12_against_32 : decode cX12_against 32 = .ok (.iconst 0, 1) := by decide +kernel
theorem dX12_against_33 : decode cX12_against 33 = .ok (.iconst 2, 1) := by decide +kernel
theorem dX12_against_34 : decode cX12_against 34 = .ok (.invokevirtual 45, 3) := by decide +kernel
theorem dX12_against_37 : decode cX12_against 37 = .ok (.ifCond .eq 7, 3) := by decide +kernel
theorem dX12_against_40 : decode cX12_against 40 = .ok (.iconst 0, 1) := by decide +kernel
theorem dX12_against_41 : decode cX12_against 41 = .ok (.goto 10, 3) := by decide +kernel
theorem dX12_against_44 : decode cX12_against 44 = .ok (.aload_n 0, 1) := by decide +kernel
theorem dX12_against_45 : decode cX12_against 45 = .ok (.iload_n 1, 1) := by decide +kernel
theorem dX12_against_46 : decode cX12_against 46 = .ok (.iload_n 2, 1) := by decide +kernel
theorem dX12_against_47 : decode cX12_against 47 = .ok (.iload_n 3, 1) := by decide +kernel
theorem dX12_against_48 : decode cX12_against 48 = .ok (.invokevirtual 226, 3) := by decide +kernel
theorem dX12_against_51 : decode cX12_against 51 = .ok (.ireturn, 1) := by decide +kernel
theorem dX12_cancels_0 : decode cX12_cancels 0 = .ok (.aload_n 0, 1) := by decide +kernel
theorem dX12_cancels_1 : decode cX12_cancels 1 = .ok (.aload_n 0, 1) := by decide +kernel
theorem dX12_cancels_2 : decode cX12_cancels 2 = .ok (.iload_n 1, 1) := by decide +kernel
theorem dX12_cancels_3 : decode cX12_cancels 3 = .ok (.invokevirtual 205, 3) := by decide +kernel
theorem dX12_cancels_6 : decode cX12_cancels 6 = .ok (.iconst 1, 1) := by decide +kernel
theorem dX12_cancels_7 : decode cX12_cancels 7 = .ok (.invokevirtual 186, 3) := by decide +kernel
theorem dX12_cancels_10 : decode cX12_cancels 10 = .ok (.ifCond .ne 23, 3) := by decide +kernel
theorem dX12_cancels_13 : decode cX12_cancels 13 = .ok (.aload_n 0, 1) := by decide +kernel
theorem dX12_cancels_14 : decode cX12_cancels 14 = .ok (.iload_n 2, 1) := by decide +kernel
theorem dX12_cancels_15 : decode cX12_cancels 15 = .ok (.invokestatic 238, 3) := by decide +kernel
theorem dX12_cancels_18 : decode cX12_cancels 18 = .ok (.iconst 2, 1) := by decide +kernel
theorem dX12_cancels_19 : decode cX12_cancels 19 = .ok (.invokevirtual 45, 3) := by decide +kernel
theorem dX12_cancels_22 : decode cX12_cancels 22 = .ok (.ifCond .ne 11, 3) := by decide +kernel
theorem dX12_cancels_25 : decode cX12_cancels 25 = .ok (.aload_n 0, 1) := by decide +kernel
theorem dX12_cancels_26 : decode cX12_cancels 26 = .ok (.iload_n 1, 1) := by decide +kernel
theorem dX12_cancels_27 : decode cX12_cancels 27 = .ok (.invokevirtual 251, 3) := by decide +kernel
theorem dX12_cancels_30 : decode cX12_cancels 30 = .ok (.ifCond .ne 5, 3) := by decide +kernel
theorem dX12_cancels_33 : decode cX12_cancels 33 = .ok (.iconst 0, 1) := by decide +kernel
theorem dX12_cancels_34 : decode cX12_cancels 34 = .ok (.ireturn, 1) := by decide +kernel
theorem dX12_cancels_35 : decode cX12_cancels 35 = .ok (.aload_n 0, 1) := by decide +kernel
theorem dX12_cancels_36 : decode cX12_cancels 36 = .ok (.iload_n 1, 1) := by decide +kernel
theorem dX12_cancels_37 : decode cX12_cancels 37 = .ok (.invokevirtual 305, 3) := by decide +kernel
theorem dX12_cancels_40 : decode cX12_cancels 40 = .ok (.astore_n 3, 1) := by decide +kernel
theorem dX12_cancels_41 : decode cX12_cancels 41 = .ok (.aload_n 0, 1) := by decide +kernel
theorem dX12_cancels_42 : decode cX12_cancels 42 = .ok (.aload_n 0, 1) := by decide +kernel
theorem dX12_cancels_43 : decode cX12_cancels 43 = .ok (.iload_n 1, 1) := by decide +kernel
theorem dX12_cancels_44 : decode cX12_cancels 44 = .ok (.invokevirtual 136, 3) := by decide +kernel
theorem dX12_cancels_47 : decode cX12_cancels 47 = .ok (.iload_n 2, 1) := by decide +kernel
theorem dX12_cancels_48 : decode cX12_cancels 48 = .ok (.invokevirtual 273, 3) := by decide +kernel
theorem dX12_cancels_51 : decode cX12_cancels 51 = .ok (.astore 4, 2) := by decide +kernel
theorem dX12_cancels_53 : decode cX12_cancels 53 = .ok (.iconst 0, 1) := by decide +kernel
theorem dX12_cancels_54 : decode cX12_cancels 54 = .ok (.istore 5, 2) := by decide +kernel
theorem dX12_cancels_56 : decode cX12_cancels 56 = .ok (.iload 5, 2) := by decide +kernel
theorem dX12_cancels_58 : decode cX12_cancels 58 = .ok (.aload_n 3, 1) := by decide +kernel
theorem dX12_cancels_59 : decode cX12_cancels 59 = .ok (.arraylength, 1) := by decide +kernel
theorem dX12_cancels_60 : decode cX12_cancels 60 = .ok (.if_icmp .ge 52, 3) := by decide +kernel
theorem dX12_cancels_63 : decode cX12_cancels 63 = .ok (.aload_n 3, 1) := by decide +kernel
theorem dX12_cancels_64 : decode cX12_cancels 64 = .ok (.aload_n 3, 1) := by decide +kernel
theorem dX12_cancels_65 : decode cX12_cancels 65 = .ok (.iload 5, 2) := by decide +kernel
theorem dX12_cancels_67 : decode cX12_cancels 67 = .ok (.iaload, 1) := by decide +kernel
theorem dX12_cancels_68 : decode cX12_cancels 68 = .ok (.iaload, 1) := by decide +kernel
theorem dX12_cancels_69 : decode cX12_cancels 69 = .ok (.iload 5, 2) := by decide +kernel
theorem dX12_cancels_71 : decode cX12_cancels 71 = .ok (.if_icmp .ne 33, 3) := by decide +kernel
theorem dX12_cancels_74 : decode cX12_cancels 74 = .ok (.aload_n 3, 1) := by decide +kernel
theorem dX12_cancels_75 : decode cX12_cancels 75 = .ok (.iload 5, 2) := by decide +kernel
theorem dX12_cancels_77 : decode cX12_cancels 77 = .ok (.iaload, 1) := by decide +kernel
theorem dX12_cancels_78 : decode cX12_cancels 78 = .ok (.iload 5, 2) := by decide +kernel
theorem dX12_cancels_80 : decode cX12_cancels 80 = .ok (.if_icmp .eq 26, 3) := by decide +kernel
theorem dX12_cancels_83 : decode cX12_cancels 83 = .ok (.aload 4, 2) := by decide +kernel
theorem dX12_cancels_85 : decode cX12_cancels 85 = .ok (.iload 5, 2) := by decide +kernel
theorem dX12_cancels_87 : decode cX12_cancels 87 = .ok (.iaload, 1) := by decide +kernel
theorem dX12_cancels_88 : decode cX12_cancels 88 = .ok (.invokestatic 277, 3) := by decide +kernel
theorem dX12_cancels_91 : decode cX12_cancels 91 = .ok (.aload 4, 2) := by decide +kernel
theorem dX12_cancels_93 : decode cX12_cancels 93 = .ok (.aload_n 3, 1) := by decide +kernel
theorem dX12_cancels_94 : decode cX12_cancels 94 = .ok (.iload 5, 2) := by decide +kernel
theorem dX12_cancels_96 : decode cX12_cancels 96 = .ok (.iaload, 1) := by decide +kernel
theorem dX12_cancels_97 : decode cX12_cancels 97 = .ok (.iaload, 1) := by decide +kernel
theorem dX12_cancels_98 : decode cX12_cancels 98 = .ok (.invokestatic 277, 3) := by decide +kernel
theorem dX12_cancels_101 : decode cX12_cancels 101 = .ok (.if_icmp .ne 5, 3) := by decide +kernel
theorem dX12_cancels_104 : decode cX12_cancels 104 = .ok (.iconst 0, 1) := by decide +kernel
theorem dX12_cancels_105 : decode cX12_cancels 105 = .ok (.ireturn, 1) := by decide +kernel
theorem dX12_cancels_106 : decode cX12_cancels 106 = .ok (.iinc 5 1, 3) := by decide +kernel
theorem dX12_cancels_109 : decode cX12_cancels 109 = .ok (.goto (-53), 3) := by decide +kernel
theorem dX12_cancels_112 : decode cX12_cancels 112 = .ok (.iconst 1, 1) := by decide +kernel
theorem dX12_cancels_113 : decode cX12_cancels 113 = .ok (.ireturn, 1) := by decide +kernel
theorem dX12_ofWalker_0 : decode cX12_ofWalker 0 = .ok (.aload_n 0, 1) := by decide +kernel
theorem dX12_ofWalker_1 : decode cX12_ofWalker 1 = .ok (.iload_n 1, 1) := by decide +kernel
theorem dX12_ofWalker_2 : decode cX12_ofWalker 2 = .ok (.iconst 0, 1) := by decide +kernel
theorem dX12_ofWalker_3 : decode cX12_ofWalker 3 = .ok (.aload_n 0, 1) := by decide +kernel
theorem dX12_ofWalker_4 : decode cX12_ofWalker 4 = .ok (.getfield 22, 3) := by decide +kernel
theorem dX12_ofWalker_7 : decode cX12_ofWalker 7 = .ok (.invokevirtual 134, 3) := by decide +kernel
theorem dX12_ofWalker_10 : decode cX12_ofWalker 10 = .ok (.iconst 1, 1) := by decide +kernel
theorem dX12_ofWalker_11 : decode cX12_ofWalker 11 = .ok (.isub, 1) := by decide +kernel
theorem dX12_ofWalker_12 : decode cX12_ofWalker 12 = .ok (.invokestatic 182, 3) := by decide +kernel
theorem dX12_ofWalker_15 : decode cX12_ofWalker 15 = .ok (.ifCond .ne 7, 3) := by decide +kernel
theorem dX12_ofWalker_18 : decode cX12_ofWalker 18 = .ok (.iconst 1, 1) := by decide +kernel
theorem dX12_ofWalker_19 : decode cX12_ofWalker 19 = .ok (.goto 4, 3) := by decide +kernel
theorem dX12_ofWalker_22 : decode cX12_ofWalker 22 = .ok (.iconst 0, 1) := by decide +kernel
theorem dX12_ofWalker_23 : decode cX12_ofWalker 23 = .ok (.iconst 1, 1) := by decide +kernel
theorem dX12_ofWalker_24 : decode cX12_ofWalker 24 = .ok (.invokevirtual 186, 3) := by decide +kernel
theorem dX12_ofWalker_27 : decode cX12_ofWalker 27 = .ok (.ifCond .ne 25, 3) := by decide +kernel
theorem dX12_ofWalker_30 : decode cX12_ofWalker 30 = .ok (.aload_n 0, 1) := by decide +kernel
theorem dX12_ofWalker_31 : decode cX12_ofWalker 31 = .ok (.iload_n 2, 1) := by decide +kernel
theorem dX12_ofWalker_32 : decode cX12_ofWalker 32 = .ok (.iconst 0, 1) := by decide +kernel
theorem dX12_ofWalker_33 : decode cX12_ofWalker 33 = .ok (.iconst 4, 1) := by decide +kernel
theorem dX12_ofWalker_34 : decode cX12_ofWalker 34 = .ok (.invokestatic 182, 3) := by decide +kernel
theorem dX12_ofWalker_37 : decode cX12_ofWalker 37 = .ok (.ifCond .ne 7, 3) := by decide +kernel
theorem dX12_ofWalker_40 : decode cX12_ofWalker 40 = .ok (.iconst 1, 1) := by decide +kernel
theorem dX12_ofWalker_41 : decode cX12_ofWalker 41 = .ok (.goto 4, 3) := by decide +kernel
theorem dX12_ofWalker_44 : decode cX12_ofWalker 44 = .ok (.iconst 0, 1) := by decide +kernel
theorem dX12_ofWalker_45 : decode cX12_ofWalker 45 = .ok (.iconst 2, 1) := by decide +kernel
theorem dX12_ofWalker_46 : decode cX12_ofWalker 46 = .ok (.invokevirtual 45, 3) := by decide +kernel
theorem dX12_ofWalker_49 : decode cX12_ofWalker 49 = .ok (.ifCond .eq 7, 3) := by decide +kernel
theorem dX12_ofWalker_52 : decode cX12_ofWalker 52 = .ok (.iconst 0, 1) := by decide +kernel
theorem dX12_ofWalker_53 : decode cX12_ofWalker 53 = .ok (.goto 19, 3) := by decide +kernel
theorem dX12_ofWalker_56 : decode cX12_ofWalker 56 = .ok (.aload_n 0, 1) := by decide +kernel
theorem dX12_ofWalker_57 : decode cX12_ofWalker 57 = .ok (.aload_n 0, 1) := by decide +kernel
theorem dX12_ofWalker_58 : decode cX12_ofWalker 58 = .ok (.getfield 22, 3) := by decide +kernel
theorem dX12_ofWalker_61 : decode cX12_ofWalker 61 = .ok (.iload_n 1, 1) := by decide +kernel
theorem dX12_ofWalker_62 : decode cX12_ofWalker 62 = .ok (.invokevirtual 122, 3) := by decide +kernel
theorem dX12_ofWalker_65 : decode cX12_ofWalker 65 = .ok (.checkcast 215, 3) := by decide +kernel
theorem dX12_ofWalker_68 : decode cX12_ofWalker 68 = .ok (.iload_n 2, 1) := by decide +kernel
theorem dX12_ofWalker_69 : decode cX12_ofWalker 69 = .ok (.invokevirtual 327, 3) := by decide +kernel
theorem dX12_ofWalker_72 : decode cX12_ofWalker 72 = .ok (.ireturn, 1) := by decide +kernel
theorem dX12_ofClaim_0 : decode cX12_ofClaim 0 = .ok (.aload_n 0, 1) := by decide +kernel
theorem dX12_ofClaim_1 : decode cX12_ofClaim 1 = .ok (.iload_n 1, 1) := by decide +kernel
theorem dX12_ofClaim_2 : decode cX12_ofClaim 2 = .ok (.iconst 0, 1) := by decide +kernel
theorem dX12_ofClaim_3 : decode cX12_ofClaim 3 = .ok (.aload_n 0, 1) := by decide +kernel
theorem dX12_ofClaim_4 : decode cX12_ofClaim 4 = .ok (.getfield 25, 3) := by decide +kernel
theorem dX12_ofClaim_7 : decode cX12_ofClaim 7 = .ok (.invokevirtual 134, 3) := by decide +kernel
theorem dX12_ofClaim_10 : decode cX12_ofClaim 10 = .ok (.iconst 1, 1) := by decide +kernel
theorem dX12_ofClaim_11 : decode cX12_ofClaim 11 = .ok (.isub, 1) := by decide +kernel
theorem dX12_ofClaim_12 : decode cX12_ofClaim 12 = .ok (.invokestatic 182, 3) := by decide +kernel
theorem dX12_ofClaim_15 : decode cX12_ofClaim 15 = .ok (.ifCond .ne 7, 3) := by decide +kernel
theorem dX12_ofClaim_18 : decode cX12_ofClaim 18 = .ok (.iconst 1, 1) := by decide +kernel
theorem dX12_ofClaim_19 : decode cX12_ofClaim 19 = .ok (.goto 4, 3) := by decide +kernel
theorem dX12_ofClaim_22 : decode cX12_ofClaim 22 = .ok (.iconst 0, 1) := by decide +kernel
theorem dX12_ofClaim_23 : decode cX12_ofClaim 23 = .ok (.iconst 1, 1) := by decide +kernel
theorem dX12_ofClaim_24 : decode cX12_ofClaim 24 = .ok (.invokevirtual 186, 3) := by decide +kernel
theorem dX12_ofClaim_27 : decode cX12_ofClaim 27 = .ok (.ifCond .ne 25, 3) := by decide +kernel
theorem dX12_ofClaim_30 : decode cX12_ofClaim 30 = .ok (.aload_n 0, 1) := by decide +kernel
theorem dX12_ofClaim_31 : decode cX12_ofClaim 31 = .ok (.iload_n 2, 1) := by decide +kernel
theorem dX12_ofClaim_32 : decode cX12_ofClaim 32 = .ok (.iconst 0, 1) := by decide +kernel
theorem dX12_ofClaim_33 : decode cX12_ofClaim 33 = .ok (.iconst 4, 1) := by decide +kernel
theorem dX12_ofClaim_34 : decode cX12_ofClaim 34 = .ok (.invokestatic 182, 3) := by decide +kernel
theorem dX12_ofClaim_37 : decode cX12_ofClaim 37 = .ok (.ifCond .ne 7, 3) := by decide +kernel
theorem dX12_ofClaim_40 : decode cX12_ofClaim 40 = .ok (.iconst 1, 1) := by decide +kernel
theorem dX12_ofClaim_41 : decode cX12_ofClaim 41 = .ok (.goto 4, 3) := by decide +kernel
theorem dX12_ofClaim_44 : decode cX12_ofClaim 44 = .ok (.iconst 0, 1) := by decide +kernel
theorem dX12_ofClaim_45 : decode cX12_ofClaim 45 = .ok (.iconst 2, 1) := by decide +kernel
theorem dX12_ofClaim_46 : decode cX12_ofClaim 46 = .ok (.invokevirtual 45, 3) := by decide +kernel
theorem dX12_ofClaim_49 : decode cX12_ofClaim 49 = .ok (.ifCond .eq 7, 3) := by decide +kernel
theorem dX12_ofClaim_52 : decode cX12_ofClaim 52 = .ok (.iconst 0, 1) := by decide +kernel
theorem dX12_ofClaim_53 : decode cX12_ofClaim 53 = .ok (.goto 19, 3) := by decide +kernel
theorem dX12_ofClaim_56 : decode cX12_ofClaim 56 = .ok (.aload_n 0, 1) := by decide +kernel
theorem dX12_ofClaim_57 : decode cX12_ofClaim 57 = .ok (.aload_n 0, 1) := by decide +kernel
theorem dX12_ofClaim_58 : decode cX12_ofClaim 58 = .ok (.getfield 25, 3) := by decide +kernel
theorem dX12_ofClaim_61 : decode cX12_ofClaim 61 = .ok (.iload_n 1, 1) := by decide +kernel
theorem dX12_ofClaim_62 : decode cX12_ofClaim 62 = .ok (.invokevirtual 122, 3) := by decide +kernel
theorem dX12_ofClaim_65 : decode cX12_ofClaim 65 = .ok (.checkcast 200, 3) := by decide +kernel
theorem dX12_ofClaim_68 : decode cX12_ofClaim 68 = .ok (.iload_n 2, 1) := by decide +kernel
theorem dX12_ofClaim_69 : decode cX12_ofClaim 69 = .ok (.invokevirtual 331, 3) := by decide +kernel
theorem dX12_ofClaim_72 : decode cX12_ofClaim 72 = .ok (.ireturn, 1) := by decide +kernel
theorem dX12_refuted_0 : decode cX12_refuted 0 = .ok (.iconst 0, 1) := by decide +kernel
theorem dX12_refuted_1 : decode cX12_refuted 1 = .ok (.istore_n 1, 1) := by decide +kernel
theorem dX12_refuted_2 : decode cX12_refuted 2 = .ok (.aload_n 0, 1) := by decide +kernel
theorem dX12_refuted_3 : decode cX12_refuted 3 = .ok (.getfield 25, 3) := by decide +kernel
theorem dX12_refuted_6 : decode cX12_refuted 6 = .ok (.invokevirtual 142, 3) := by decide +kernel
theorem dX12_refuted_9 : decode cX12_refuted 9 = .ok (.astore_n 2, 1) := by decide +kernel
theorem dX12_refuted_10 : decode cX12_refuted 10 = .ok (.aload_n 2, 1) := by decide +kernel
theorem dX12_refuted_11 : decode cX12_refuted 11 = .ok (.invokeinterface 146 1, 5) := by decide +kernel
theorem dX12_refuted_16 : decode cX12_refuted 16 = .ok (.ifCond .eq 31, 3) := by decide +kernel
theorem dX12_refuted_19 : decode cX12_refuted 19 = .ok (.aload_n 2, 1) := by decide +kernel
theorem dX12_refuted_20 : decode cX12_refuted 20 = .ok (.invokeinterface 152 1, 5) := by decide +kernel
theorem dX12_refuted_25 : decode cX12_refuted 25 = .ok (.checkcast 200, 3) := by decide +kernel
theorem dX12_refuted_28 : decode cX12_refuted 28 = .ok (.astore_n 3, 1) := by decide +kernel
theorem dX12_refuted_29 : decode cX12_refuted 29 = .ok (.iload_n 1, 1) := by decide +kernel
theorem dX12_refuted_30 : decode cX12_refuted 30 = .ok (.aload_n 3, 1) := by decide +kernel
theorem dX12_refuted_31 : decode cX12_refuted 31 = .ok (.getfield 235, 3) := by decide +kernel
theorem dX12_refuted_34 : decode cX12_refuted 34 = .ok (.ifCond .le 7, 3) := by decide +kernel
theorem dX12_refuted_37 : decode cX12_refuted 37 = .ok (.iconst 1, 1) := by decide +kernel
theorem dX12_refuted_38 : decode cX12_refuted 38 = .ok (.goto 4, 3) := by decide +kernel
theorem dX12_refuted_41 : decode cX12_refuted 41 = .ok (.iconst 0, 1) := by decide +kernel
theorem dX12_refuted_42 : decode cX12_refuted 42 = .ok (.iadd, 1) := by decide +kernel
theorem dX12_refuted_43 : decode cX12_refuted 43 = .ok (.istore_n 1, 1) := by decide +kernel
theorem dX12_refuted_44 : decode cX12_refuted 44 = .ok (.goto (-34), 3) := by decide +kernel
theorem dX12_refuted_47 : decode cX12_refuted 47 = .ok (.iload_n 1, 1) := by decide +kernel
theorem dX12_refuted_48 : decode cX12_refuted 48 = .ok (.ireturn, 1) := by decide +kernel
theorem dX12_manyNow_0 : decode cX12_manyNow 0 = .ok (.iload_n 1, 1) := by decide +kernel
theorem dX12_manyNow_1 : decode cX12_manyNow 1 = .ok (.tableswitch 78 0 5 #[39, 44, 52, 60, 68, 73], 39) := by decide +kernel
theorem dX12_manyNow_40 : decode cX12_manyNow 40 = .ok (.aload_n 0, 1) := by decide +kernel
theorem dX12_manyNow_41 : decode cX12_manyNow 41 = .ok (.getfield 53, 3) := by decide +kernel
theorem dX12_manyNow_44 : decode cX12_manyNow 44 = .ok (.ireturn, 1) := by decide +kernel
theorem dX12_manyNow_45 : decode cX12_manyNow 45 = .ok (.aload_n 0, 1) := by decide +kernel
theorem dX12_manyNow_46 : decode cX12_manyNow 46 = .ok (.getfield 18, 3) := by decide +kernel
theorem dX12_manyNow_49 : decode cX12_manyNow 49 = .ok (.invokevirtual 134, 3) := by decide +kernel
theorem dX12_manyNow_52 : decode cX12_manyNow 52 = .ok (.ireturn, 1) := by decide +kernel
theorem dX12_manyNow_53 : decode cX12_manyNow 53 = .ok (.aload_n 0, 1) := by decide +kernel
theorem dX12_manyNow_54 : decode cX12_manyNow 54 = .ok (.getfield 22, 3) := by decide +kernel
theorem dX12_manyNow_57 : decode cX12_manyNow 57 = .ok (.invokevirtual 134, 3) := by decide +kernel
theorem dX12_manyNow_60 : decode cX12_manyNow 60 = .ok (.ireturn, 1) := by decide +kernel
theorem dX12_manyNow_61 : decode cX12_manyNow 61 = .ok (.aload_n 0, 1) := by decide +kernel
theorem dX12_manyNow_62 : decode cX12_manyNow 62 = .ok (.getfield 25, 3) := by decide +kernel
theorem dX12_manyNow_65 : decode cX12_manyNow 65 = .ok (.invokevirtual 134, 3) := by decide +kernel
theorem dX12_manyNow_68 : decode cX12_manyNow 68 = .ok (.ireturn, 1) := by decide +kernel
theorem dX12_manyNow_69 : decode cX12_manyNow 69 = .ok (.aload_n 0, 1) := by decide +kernel
theorem dX12_manyNow_70 : decode cX12_manyNow 70 = .ok (.invokevirtual 335, 3) := by decide +kernel
theorem dX12_manyNow_73 : decode cX12_manyNow 73 = .ok (.ireturn, 1) := by decide +kernel
theorem dX12_manyNow_74 : decode cX12_manyNow 74 = .ok (.aload_n 0, 1) := by decide +kernel
theorem dX12_manyNow_75 : decode cX12_manyNow 75 = .ok (.getfield 260, 3) := by decide +kernel
theorem dX12_manyNow_78 : decode cX12_manyNow 78 = .ok (.ireturn, 1) := by decide +kernel
theorem dX12_manyNow_79 : decode cX12_manyNow 79 = .ok (.aload_n 0, 1) := by decide +kernel
theorem dX12_manyNow_80 : decode cX12_manyNow 80 = .ok (.getfield 229, 3) := by decide +kernel
theorem dX12_manyNow_83 : decode cX12_manyNow 83 = .ok (.ireturn, 1) := by decide +kernel
theorem dX12_many_0 : decode cX12_many 0 = .ok (.aload_n 0, 1) := by decide +kernel
theorem dX12_many_1 : decode cX12_many 1 = .ok (.iload_n 1, 1) := by decide +kernel
theorem dX12_many_2 : decode cX12_many 2 = .ok (.iconst 0, 1) := by decide +kernel
theorem dX12_many_3 : decode cX12_many 3 = .ok (.bipush 6, 2) := by decide +kernel
theorem dX12_many_5 : decode cX12_many 5 = .ok (.invokestatic 182, 3) := by decide +kernel
theorem dX12_many_8 : decode cX12_many 8 = .ok (.ifCond .ne 7, 3) := by decide +kernel
theorem dX12_many_11 : decode cX12_many 11 = .ok (.iconst 1, 1) := by decide +kernel
theorem dX12_many_12 : decode cX12_many 12 = .ok (.goto 4, 3) := by decide +kernel
theorem dX12_many_15 : decode cX12_many 15 = .ok (.iconst 0, 1) := by decide +kernel
theorem dX12_many_16 : decode cX12_many 16 = .ok (.iconst 1, 1) := by decide +kernel
theorem dX12_many_17 : decode cX12_many 17 = .ok (.invokevirtual 186, 3) := by decide +kernel
theorem dX12_many_20 : decode cX12_many 20 = .ok (.ifCond .eq 7, 3) := by decide +kernel
theorem dX12_many_23 : decode cX12_many 23 = .ok (.iconst 0, 1) := by decide +kernel
theorem dX12_many_24 : decode cX12_many 24 = .ok (.goto 8, 3) := by decide +kernel
theorem dX12_many_27 : decode cX12_many 27 = .ok (.aload_n 0, 1) := by decide +kernel
theorem dX12_many_28 : decode cX12_many 28 = .ok (.iload_n 1, 1) := by decide +kernel
theorem dX12_many_29 : decode cX12_many 29 = .ok (.invokevirtual 337, 3) := by decide +kernel
theorem dX12_many_32 : decode cX12_many 32 = .ok (.ireturn, 1) := by decide +kernel
theorem dX12_mean_0 : decode cX12_mean 0 = .ok (.aload_n 0, 1) := by decide +kernel
theorem dX12_mean_1 : decode cX12_mean 1 = .ok (.iload_n 1, 1) := by decide +kernel
theorem dX12_mean_2 : decode cX12_mean 2 = .ok (.invokestatic 212, 3) := by decide +kernel
theorem dX12_mean_5 : decode cX12_mean 5 = .ok (.iconst 1, 1) := by decide +kernel
theorem dX12_mean_6 : decode cX12_mean 6 = .ok (.invokevirtual 186, 3) := by decide +kernel
theorem dX12_mean_9 : decode cX12_mean 9 = .ok (.ifCond .ne 15, 3) := by decide +kernel
theorem dX12_mean_12 : decode cX12_mean 12 = .ok (.aload_n 0, 1) := by decide +kernel
theorem dX12_mean_13 : decode cX12_mean 13 = .ok (.iload_n 2, 1) := by decide +kernel
theorem dX12_mean_14 : decode cX12_mean 14 = .ok (.invokestatic 238, 3) := by decide +kernel
theorem dX12_mean_17 : decode cX12_mean 17 = .ok (.iconst 2, 1) := by decide +kernel
theorem dX12_mean_18 : decode cX12_mean 18 = .ok (.invokevirtual 45, 3) := by decide +kernel
theorem dX12_mean_21 : decode cX12_mean 21 = .ok (.ifCond .eq 5, 3) := by decide +kernel
theorem dX12_mean_24 : decode cX12_mean 24 = .ok (.dconst 0, 1) := by decide +kernel
theorem dX12_mean_25 : decode cX12_mean 25 = .ok (.dreturn, 1) := by decide +kernel
theorem dX12_mean_26 : decode cX12_mean 26 = .ok (.iconst 0, 1) := by decide +kernel
theorem dX12_mean_27 : decode cX12_mean 27 = .ok (.istore_n 3, 1) := by decide +kernel
theorem dX12_mean_28 : decode cX12_mean 28 = .ok (.aload_n 0, 1) := by decide +kernel
theorem dX12_mean_29 : decode cX12_mean 29 = .ok (.iload_n 1, 1) := by decide +kernel
theorem dX12_mean_30 : decode cX12_mean 30 = .ok (.iload_n 2, 1) := by decide +kernel
theorem dX12_mean_31 : decode cX12_mean 31 = .ok (.invokevirtual 273, 3) := by decide +kernel
theorem dX12_mean_34 : decode cX12_mean 34 = .ok (.astore 4, 2) := by decide +kernel
theorem dX12_mean_36 : decode cX12_mean 36 = .ok (.aload 4, 2) := by decide +kernel
theorem dX12_mean_38 : decode cX12_mean 38 = .ok (.arraylength, 1) := by decide +kernel
theorem dX12_mean_39 : decode cX12_mean 39 = .ok (.istore 5, 2) := by decide +kernel
theorem dX12_mean_41 : decode cX12_mean 41 = .ok (.iconst 0, 1) := by decide +kernel
theorem dX12_mean_42 : decode cX12_mean 42 = .ok (.istore 6, 2) := by decide +kernel
theorem dX12_mean_44 : decode cX12_mean 44 = .ok (.iload 6, 2) := by decide +kernel
theorem dX12_mean_46 : decode cX12_mean 46 = .ok (.iload 5, 2) := by decide +kernel
theorem dX12_mean_48 : decode cX12_mean 48 = .ok (.if_icmp .ge 21, 3) := by decide +kernel
theorem dX12_mean_51 : decode cX12_mean 51 = .ok (.aload 4, 2) := by decide +kernel
theorem dX12_mean_53 : decode cX12_mean 53 = .ok (.iload 6, 2) := by decide +kernel
theorem dX12_mean_55 : decode cX12_mean 55 = .ok (.iaload, 1) := by decide +kernel
theorem dX12_mean_56 : decode cX12_mean 56 = .ok (.istore 7, 2) := by decide +kernel
theorem dX12_mean_58 : decode cX12_mean 58 = .ok (.iload_n 3, 1) := by decide +kernel
theorem dX12_mean_59 : decode cX12_mean 59 = .ok (.iload 7, 2) := by decide +kernel
theorem dX12_mean_61 : decode cX12_mean 61 = .ok (.iadd, 1) := by decide +kernel
theorem dX12_mean_62 : decode cX12_mean 62 = .ok (.istore_n 3, 1) := by decide +kernel
theorem dX12_mean_63 : decode cX12_mean 63 = .ok (.iinc 6 1, 3) := by decide +kernel
theorem dX12_mean_66 : decode cX12_mean 66 = .ok (.goto (-22), 3) := by decide +kernel
theorem dX12_mean_69 : decode cX12_mean 69 = .ok (.iload_n 3, 1) := by decide +kernel
theorem dX12_mean_70 : decode cX12_mean 70 = .ok (.i2d, 1) := by decide +kernel
theorem dX12_mean_71 : decode cX12_mean 71 = .ok (.aload_n 0, 1) := by decide +kernel
theorem dX12_mean_72 : decode cX12_mean 72 = .ok (.getfield 11, 3) := by decide +kernel
theorem dX12_mean_75 : decode cX12_mean 75 = .ok (.iload_n 1, 1) := by decide +kernel
theorem dX12_mean_76 : decode cX12_mean 76 = .ok (.aaload, 1) := by decide +kernel
theorem dX12_mean_77 : decode cX12_mean 77 = .ok (.arraylength, 1) := by decide +kernel
theorem dX12_mean_78 : decode cX12_mean 78 = .ok (.i2d, 1) := by decide +kernel
theorem dX12_mean_79 : decode cX12_mean 79 = .ok (.ddiv, 1) := by decide +kernel
theorem dX12_mean_80 : decode cX12_mean 80 = .ok (.dreturn, 1) := by decide +kernel
theorem dX12_add_0 : decode cX12_add 0 = .ok (.lload_n 0, 1) := by decide +kernel
theorem dX12_add_1 : decode cX12_add 1 = .ok (.ldc2_w 340, 3) := by decide +kernel
theorem dX12_add_4 : decode cX12_add 4 = .ok (.lmul, 1) := by decide +kernel
theorem dX12_add_5 : decode cX12_add 5 = .ok (.lload_n 2, 1) := by decide +kernel
theorem dX12_add_6 : decode cX12_add 6 = .ok (.ladd, 1) := by decide +kernel
theorem dX12_add_7 : decode cX12_add 7 = .ok (.lreturn, 1) := by decide +kernel
theorem dX12_digest_0 : decode cX12_digest 0 = .ok (.aload_n 0, 1) := by decide +kernel
theorem dX12_digest_1 : decode cX12_digest 1 = .ok (.iconst 0, 1) := by decide +kernel
theorem dX12_digest_2 : decode cX12_digest 2 = .ok (.putfield 41, 3) := by decide +kernel
theorem dX12_digest_5 : decode cX12_digest 5 = .ok (.ldc2_w 344, 3) := by decide +kernel
theorem dX12_digest_8 : decode cX12_digest 8 = .ok (.lstore_n 1, 1) := by decide +kernel
theorem dX12_digest_9 : decode cX12_digest 9 = .ok (.iconst 0, 1) := by decide +kernel
theorem dX12_digest_10 : decode cX12_digest 10 = .ok (.istore_n 3, 1) := by decide +kernel
theorem dX12_digest_11 : decode cX12_digest 11 = .ok (.iload_n 3, 1) := by decide +kernel
theorem dX12_digest_12 : decode cX12_digest 12 = .ok (.bipush 7, 2) := by decide +kernel
theorem dX12_digest_14 : decode cX12_digest 14 = .ok (.if_icmp .ge 20, 3) := by decide +kernel
theorem dX12_digest_17 : decode cX12_digest 17 = .ok (.lload_n 1, 1) := by decide +kernel
theorem dX12_digest_18 : decode cX12_digest 18 = .ok (.aload_n 0, 1) := by decide +kernel
theorem dX12_digest_19 : decode cX12_digest 19 = .ok (.iload_n 3, 1) := by decide +kernel
theorem dX12_digest_20 : decode cX12_digest 20 = .ok (.invokevirtual 337, 3) := by decide +kernel
theorem dX12_digest_23 : decode cX12_digest 23 = .ok (.i2l, 1) := by decide +kernel
theorem dX12_digest_24 : decode cX12_digest 24 = .ok (.invokestatic 342, 3) := by decide +kernel
theorem dX12_digest_27 : decode cX12_digest 27 = .ok (.lstore_n 1, 1) := by decide +kernel
theorem dX12_digest_28 : decode cX12_digest 28 = .ok (.iinc 3 1, 3) := by decide +kernel
theorem dX12_digest_31 : decode cX12_digest 31 = .ok (.goto (-20), 3) := by decide +kernel
theorem dX12_digest_34 : decode cX12_digest 34 = .ok (.iconst 0, 1) := by decide +kernel
theorem dX12_digest_35 : decode cX12_digest 35 = .ok (.istore_n 3, 1) := by decide +kernel
theorem dX12_digest_36 : decode cX12_digest 36 = .ok (.iload_n 3, 1) := by decide +kernel
theorem dX12_digest_37 : decode cX12_digest 37 = .ok (.iconst 3, 1) := by decide +kernel
theorem dX12_digest_38 : decode cX12_digest 38 = .ok (.if_icmp .ge 50, 3) := by decide +kernel
theorem dX12_digest_41 : decode cX12_digest 41 = .ok (.lload_n 1, 1) := by decide +kernel
theorem dX12_digest_42 : decode cX12_digest 42 = .ok (.aload_n 0, 1) := by decide +kernel
theorem dX12_digest_43 : decode cX12_digest 43 = .ok (.getfield 11, 3) := by decide +kernel
theorem dX12_digest_46 : decode cX12_digest 46 = .ok (.iload_n 3, 1) := by decide +kernel
theorem dX12_digest_47 : decode cX12_digest 47 = .ok (.aaload, 1) := by decide +kernel
theorem dX12_digest_48 : decode cX12_digest 48 = .ok (.arraylength, 1) := by decide +kernel
theorem dX12_digest_49 : decode cX12_digest 49 = .ok (.i2l, 1) := by decide +kernel
theorem dX12_digest_50 : decode cX12_digest 50 = .ok (.invokestatic 342, 3) := by decide +kernel
theorem dX12_digest_53 : decode cX12_digest 53 = .ok (.lstore_n 1, 1) := by decide +kernel
theorem dX12_digest_54 : decode cX12_digest 54 = .ok (.iconst 0, 1) := by decide +kernel
theorem dX12_digest_55 : decode cX12_digest 55 = .ok (.istore 4, 2) := by decide +kernel
theorem dX12_digest_57 : decode cX12_digest 57 = .ok (.iload 4, 2) := by decide +kernel
theorem dX12_digest_59 : decode cX12_digest 59 = .ok (.iconst 4, 1) := by decide +kernel
theorem dX12_digest_60 : decode cX12_digest 60 = .ok (.if_icmp .ge 22, 3) := by decide +kernel
theorem dX12_digest_63 : decode cX12_digest 63 = .ok (.lload_n 1, 1) := by decide +kernel
theorem dX12_digest_64 : decode cX12_digest 64 = .ok (.aload_n 0, 1) := by decide +kernel
theorem dX12_digest_65 : decode cX12_digest 65 = .ok (.iload_n 3, 1) := by decide +kernel
theorem dX12_digest_66 : decode cX12_digest 66 = .ok (.iload 4, 2) := by decide +kernel
theorem dX12_digest_68 : decode cX12_digest 68 = .ok (.invokevirtual 280, 3) := by decide +kernel
theorem dX12_digest_71 : decode cX12_digest 71 = .ok (.i2l, 1) := by decide +kernel
theorem dX12_digest_72 : decode cX12_digest 72 = .ok (.invokestatic 342, 3) := by decide +kernel
theorem dX12_digest_75 : decode cX12_digest 75 = .ok (.lstore_n 1, 1) := by decide +kernel
theorem dX12_digest_76 : decode cX12_digest 76 = .ok (.iinc 4 1, 3) := by decide +kernel
theorem dX12_digest_79 : decode cX12_digest 79 = .ok (.goto (-22), 3) := by decide +kernel
theorem dX12_digest_82 : decode cX12_digest 82 = .ok (.iinc 3 1, 3) := by decide +kernel
theorem dX12_digest_85 : decode cX12_digest 85 = .ok (.goto (-49), 3) := by decide +kernel
theorem dX12_digest_88 : decode cX12_digest 88 = .ok (.iconst 0, 1) := by decide +kernel
theorem dX12_digest_89 : decode cX12_digest 89 = .ok (.istore_n 3, 1) := by decide +kernel
theorem dX12_digest_90 : decode cX12_digest 90 = .ok (.iload_n 3, 1) := by decide +kernel
theorem dX12_digest_91 : decode cX12_digest 91 = .ok (.aload_n 0, 1) := by decide +kernel
theorem dX12_digest_92 : decode cX12_digest 92 = .ok (.getfield 18, 3) := by decide +kernel
theorem dX12_digest_95 : decode cX12_digest 95 = .ok (.invokevirtual 134, 3) := by decide +kernel
theorem dX12_digest_98 : decode cX12_digest 98 = .ok (.if_icmp .ge 16, 3) := by decide +kernel
theorem dX12_digest_101 : decode cX12_digest 101 = .ok (.aload_n 0, 1) := by decide +kernel
theorem dX12_digest_102 : decode cX12_digest 102 = .ok (.lload_n 1, 1) := by decide +kernel
theorem dX12_digest_103 : decode cX12_digest 103 = .ok (.iload_n 3, 1) := by decide +kernel
theorem dX12_digest_104 : decode cX12_digest 104 = .ok (.invokevirtual 346, 3) := by decide +kernel
theorem dX12_digest_107 : decode cX12_digest 107 = .ok (.lstore_n 1, 1) := by decide +kernel
theorem dX12_digest_108 : decode cX12_digest 108 = .ok (.iinc 3 1, 3) := by decide +kernel
theorem dX12_digest_111 : decode cX12_digest 111 = .ok (.goto (-21), 3) := by decide +kernel
theorem dX12_digest_114 : decode cX12_digest 114 = .ok (.iconst 0, 1) := by decide +kernel
theorem dX12_digest_115 : decode cX12_digest 115 = .ok (.istore_n 3, 1) := by decide +kernel
theorem dX12_digest_116 : decode cX12_digest 116 = .ok (.iload_n 3, 1) := by decide +kernel
theorem dX12_digest_117 : decode cX12_digest 117 = .ok (.aload_n 0, 1) := by decide +kernel
theorem dX12_digest_118 : decode cX12_digest 118 = .ok (.getfield 22, 3) := by decide +kernel
theorem dX12_digest_121 : decode cX12_digest 121 = .ok (.invokevirtual 134, 3) := by decide +kernel
theorem dX12_digest_124 : decode cX12_digest 124 = .ok (.if_icmp .ge 47, 3) := by decide +kernel
theorem dX12_digest_127 : decode cX12_digest 127 = .ok (.iconst 0, 1) := by decide +kernel
theorem dX12_digest_128 : decode cX12_digest 128 = .ok (.istore 4, 2) := by decide +kernel
theorem dX12_digest_130 : decode cX12_digest 130 = .ok (.iload 4, 2) := by decide +kernel
theorem dX12_digest_132 : decode cX12_digest 132 = .ok (.iconst 5, 1) := by decide +kernel
theorem dX12_digest_133 : decode cX12_digest 133 = .ok (.if_icmp .ge 32, 3) := by decide +kernel
theorem dX12_digest_136 : decode cX12_digest 136 = .ok (.lload_n 1, 1) := by decide +kernel
theorem dX12_digest_137 : decode cX12_digest 137 = .ok (.aload_n 0, 1) := by decide +kernel
theorem dX12_digest_138 : decode cX12_digest 138 = .ok (.aload_n 0, 1) := by decide +kernel
theorem dX12_digest_139 : decode cX12_digest 139 = .ok (.getfield 22, 3) := by decide +kernel
theorem dX12_digest_142 : decode cX12_digest 142 = .ok (.iload_n 3, 1) := by decide +kernel
theorem dX12_digest_143 : decode cX12_digest 143 = .ok (.invokevirtual 122, 3) := by decide +kernel
theorem dX12_digest_146 : decode cX12_digest 146 = .ok (.checkcast 215, 3) := by decide +kernel
theorem dX12_digest_149 : decode cX12_digest 149 = .ok (.iload 4, 2) := by decide +kernel
theorem dX12_digest_151 : decode cX12_digest 151 = .ok (.invokevirtual 327, 3) := by decide +kernel
theorem dX12_digest_154 : decode cX12_digest 154 = .ok (.i2l, 1) := by decide +kernel
theorem dX12_digest_155 : decode cX12_digest 155 = .ok (.invokestatic 342, 3) := by decide +kernel
theorem dX12_digest_158 : decode cX12_digest 158 = .ok (.lstore_n 1, 1) := by decide +kernel
theorem dX12_digest_159 : decode cX12_digest 159 = .ok (.iinc 4 1, 3) := by decide +kernel
theorem dX12_digest_162 : decode cX12_digest 162 = .ok (.goto (-32), 3) := by decide +kernel
theorem dX12_digest_165 : decode cX12_digest 165 = .ok (.iinc 3 1, 3) := by decide +kernel
theorem dX12_digest_168 : decode cX12_digest 168 = .ok (.goto (-52), 3) := by decide +kernel
theorem dX12_digest_171 : decode cX12_digest 171 = .ok (.iconst 0, 1) := by decide +kernel
theorem dX12_digest_172 : decode cX12_digest 172 = .ok (.istore_n 3, 1) := by decide +kernel
theorem dX12_digest_173 : decode cX12_digest 173 = .ok (.iload_n 3, 1) := by decide +kernel
theorem dX12_digest_174 : decode cX12_digest 174 = .ok (.aload_n 0, 1) := by decide +kernel
theorem dX12_digest_175 : decode cX12_digest 175 = .ok (.getfield 25, 3) := by decide +kernel
theorem dX12_digest_178 : decode cX12_digest 178 = .ok (.invokevirtual 134, 3) := by decide +kernel
theorem dX12_digest_181 : decode cX12_digest 181 = .ok (.if_icmp .ge 47, 3) := by decide +kernel
theorem dX12_digest_184 : decode cX12_digest 184 = .ok (.iconst 0, 1) := by decide +kernel
theorem dX12_digest_185 : decode cX12_digest 185 = .ok (.istore 4, 2) := by decide +kernel
theorem dX12_digest_187 : decode cX12_digest 187 = .ok (.iload 4, 2) := by decide +kernel
theorem dX12_digest_189 : decode cX12_digest 189 = .ok (.iconst 5, 1) := by decide +kernel
theorem dX12_digest_190 : decode cX12_digest 190 = .ok (.if_icmp .ge 32, 3) := by decide +kernel
theorem dX12_digest_193 : decode cX12_digest 193 = .ok (.lload_n 1, 1) := by decide +kernel
theorem dX12_digest_194 : decode cX12_digest 194 = .ok (.aload_n 0, 1) := by decide +kernel
theorem dX12_digest_195 : decode cX12_digest 195 = .ok (.aload_n 0, 1) := by decide +kernel
theorem dX12_digest_196 : decode cX12_digest 196 = .ok (.getfield 25, 3) := by decide +kernel
theorem dX12_digest_199 : decode cX12_digest 199 = .ok (.iload_n 3, 1) := by decide +kernel
theorem dX12_digest_200 : decode cX12_digest 200 = .ok (.invokevirtual 122, 3) := by decide +kernel
theorem dX12_digest_203 : decode cX12_digest 203 = .ok (.checkcast 200, 3) := by decide +kernel
theorem dX12_digest_206 : decode cX12_digest 206 = .ok (.iload 4, 2) := by decide +kernel
theorem dX12_digest_208 : decode cX12_digest 208 = .ok (.invokevirtual 331, 3) := by decide +kernel
theorem dX12_digest_211 : decode cX12_digest 211 = .ok (.i2l, 1) := by decide +kernel
theorem dX12_digest_212 : decode cX12_digest 212 = .ok (.invokestatic 342, 3) := by decide +kernel
theorem dX12_digest_215 : decode cX12_digest 215 = .ok (.lstore_n 1, 1) := by decide +kernel
theorem dX12_digest_216 : decode cX12_digest 216 = .ok (.iinc 4 1, 3) := by decide +kernel
theorem dX12_digest_219 : decode cX12_digest 219 = .ok (.goto (-32), 3) := by decide +kernel
theorem dX12_digest_222 : decode cX12_digest 222 = .ok (.iinc 3 1, 3) := by decide +kernel
theorem dX12_digest_225 : decode cX12_digest 225 = .ok (.goto (-52), 3) := by decide +kernel
theorem dX12_digest_228 : decode cX12_digest 228 = .ok (.lload_n 1, 1) := by decide +kernel
theorem dX12_digest_229 : decode cX12_digest 229 = .ok (.aload_n 0, 1) := by decide +kernel
theorem dX12_digest_230 : decode cX12_digest 230 = .ok (.iconst 1, 1) := by decide +kernel
theorem dX12_digest_231 : decode cX12_digest 231 = .ok (.invokevirtual 295, 3) := by decide +kernel
theorem dX12_digest_234 : decode cX12_digest 234 = .ok (.i2l, 1) := by decide +kernel
theorem dX12_digest_235 : decode cX12_digest 235 = .ok (.invokestatic 342, 3) := by decide +kernel
theorem dX12_digest_238 : decode cX12_digest 238 = .ok (.lreturn, 1) := by decide +kernel
theorem dJxa1e45_init_da8c8_0 : decode cJxa1e45_init_da8c8 0 = .ok (.aload_n 0, 1) := by decide +kernel
theorem dJxa1e45_init_da8c8_1 : decode cJxa1e45_init_da8c8 1 = .ok (.invokespecial 1, 3) := by decide +kernel
theorem dJxa1e45_init_da8c8_4 : decode cJxa1e45_init_da8c8 4 = .ok (.return_, 1) := by decide +kernel
theorem dJxc12de_init_da8c8_0 : decode cJxc12de_init_da8c8 0 = .ok (.aload_n 0, 1) := by decide +kernel
theorem dJxc12de_init_da8c8_1 : decode cJxc12de_init_da8c8 1 = .ok (.invokespecial 1, 3) := by decide +kernel
theorem dJxc12de_init_da8c8_4 : decode cJxc12de_init_da8c8 4 = .ok (.aload_n 0, 1) := by decide +kernel
theorem dJxc12de_init_da8c8_5 : decode cJxc12de_init_da8c8 5 = .ok (.iconst 0, 1) := by decide +kernel
theorem dJxc12de_init_da8c8_6 : decode cJxc12de_init_da8c8 6 = .ok (.putfield 7, 3) := by decide +kernel
theorem dJxc12de_init_da8c8_9 : decode cJxc12de_init_da8c8 9 = .ok (.return_, 1) := by decide +kernel
theorem dJx35411_init_45d68_0 : decode cJx35411_init_45d68 0 = .ok (.aload_n 0, 1) := by decide +kernel
theorem dJx35411_init_45d68_1 : decode cJx35411_init_45d68 1 = .ok (.aload_n 1, 1) := by decide +kernel
theorem dJx35411_init_45d68_2 : decode cJx35411_init_45d68 2 = .ok (.putfield 1, 3) := by decide +kernel
theorem dJx35411_init_45d68_5 : decode cJx35411_init_45d68 5 = .ok (.aload_n 0, 1) := by decide +kernel
theorem dJx35411_init_45d68_6 : decode cJx35411_init_45d68 6 = .ok (.invokespecial 7, 3) := by decide +kernel
theorem dJx35411_init_45d68_9 : decode cJx35411_init_45d68 9 = .ok (.aload_n 0, 1) := by decide +kernel
theorem dJx35411_init_45d68_10 : decode cJx35411_init_45d68 10 = .ok (.iconst (-1), 1) := by decide +kernel
theorem dJx35411_init_45d68_11 : decode cJx35411_init_45d68 11 = .ok (.putfield 13, 3) := by decide +kernel
theorem dJx35411_init_45d68_14 : decode cJx35411_init_45d68 14 = .ok (.aload_n 0, 1) := by decide +kernel
theorem dJx35411_init_45d68_15 : decode cJx35411_init_45d68 15 = .ok (.aload_n 0, 1) := by decide +kernel
theorem dJx35411_init_45d68_16 : decode cJx35411_init_45d68 16 = .ok (.getfield 1, 3) := by decide +kernel
theorem dJx35411_init_45d68_19 : decode cJx35411_init_45d68 19 = .ok (.getfield 17, 3) := by decide +kernel
theorem dJx35411_init_45d68_22 : decode cJx35411_init_45d68 22 = .ok (.putfield 22, 3) := by decide +kernel
theorem dJx35411_init_45d68_25 : decode cJx35411_init_45d68 25 = .ok (.return_, 1) := by decide +kernel
theorem dJx35411_hasNext_aae02_0 : decode cJx35411_hasNext_aae02 0 = .ok (.aload_n 0, 1) := by decide +kernel
theorem dJx35411_hasNext_aae02_1 : decode cJx35411_hasNext_aae02 1 = .ok (.getfield 25, 3) := by decide +kernel
theorem dJx35411_hasNext_aae02_4 : decode cJx35411_hasNext_aae02 4 = .ok (.aload_n 0, 1) := by decide +kernel
theorem dJx35411_hasNext_aae02_5 : decode cJx35411_hasNext_aae02 5 = .ok (.getfield 1, 3) := by decide +kernel
theorem dJx35411_hasNext_aae02_8 : decode cJx35411_hasNext_aae02 8 = .ok (.getfield 28, 3) := by decide +kernel
theorem dJx35411_hasNext_aae02_11 : decode cJx35411_hasNext_aae02 11 = .ok (.if_icmp .eq 7, 3) := by decide +kernel
theorem dJx35411_hasNext_aae02_14 : decode cJx35411_hasNext_aae02 14 = .ok (.iconst 1, 1) := by decide +kernel
theorem dJx35411_hasNext_aae02_15 : decode cJx35411_hasNext_aae02 15 = .ok (.goto 4, 3) := by decide +kernel
theorem dJx35411_hasNext_aae02_18 : decode cJx35411_hasNext_aae02 18 = .ok (.iconst 0, 1) := by decide +kernel
theorem dJx35411_hasNext_aae02_19 : decode cJx35411_hasNext_aae02 19 = .ok (.ireturn, 1) := by decide +kernel
theorem dJx4a65c_init_da8c8_0 : decode cJx4a65c_init_da8c8 0 = .ok (.aload_n 0, 1) := by decide +kernel
theorem dJx4a65c_init_da8c8_1 : decode cJx4a65c_init_da8c8 1 = .ok (.invokespecial 1, 3) := by decide +kernel
theorem dJx4a65c_init_da8c8_4 : decode cJx4a65c_init_da8c8 4 = .ok (.aload_n 0, 1) := by decide +kernel
theorem dJx4a65c_init_da8c8_5 : decode cJx4a65c_init_da8c8 5 = .ok (.getstatic 39, 3) := by decide +kernel
theorem dJx4a65c_init_da8c8_8 : decode cJx4a65c_init_da8c8 8 = .ok (.putfield 9, 3) := by decide +kernel
theorem dJx4a65c_init_da8c8_11 : decode cJx4a65c_init_da8c8 11 = .ok (.return_, 1) := by decide +kernel
theorem dJx4a65c_grow_92f84_0 : decode cJx4a65c_grow_92f84 0 = .ok (.aload_n 0, 1) := by decide +kernel
theorem dJx4a65c_grow_92f84_1 : decode cJx4a65c_grow_92f84 1 = .ok (.getfield 9, 3) := by decide +kernel
theorem dJx4a65c_grow_92f84_4 : decode cJx4a65c_grow_92f84 4 = .ok (.arraylength, 1) := by decide +kernel
theorem dJx4a65c_grow_92f84_5 : decode cJx4a65c_grow_92f84 5 = .ok (.istore_n 2, 1) := by decide +kernel
theorem dJx4a65c_grow_92f84_6 : decode cJx4a65c_grow_92f84 6 = .ok (.iload_n 2, 1) := by decide +kernel
theorem dJx4a65c_grow_92f84_7 : decode cJx4a65c_grow_92f84 7 = .ok (.ifCond .gt 13, 3) := by decide +kernel
theorem dJx4a65c_grow_92f84_10 : decode cJx4a65c_grow_92f84 10 = .ok (.aload_n 0, 1) := by decide +kernel
theorem dJx4a65c_grow_92f84_11 : decode cJx4a65c_grow_92f84 11 = .ok (.getfield 9, 3) := by decide +kernel
theorem dJx4a65c_grow_92f84_14 : decode cJx4a65c_grow_92f84 14 = .ok (.getstatic 39, 3) := by decide +kernel
theorem dJx4a65c_grow_92f84_17 : decode cJx4a65c_grow_92f84 17 = .ok (.if_acmp .eq 28, 3) := by decide +kernel
theorem dJx4a65c_grow_92f84_20 : decode cJx4a65c_grow_92f84 20 = .ok (.iload_n 2, 1) := by decide +kernel
theorem dJx4a65c_grow_92f84_21 : decode cJx4a65c_grow_92f84 21 = .ok (.iload_n 1, 1) := by decide +kernel
theorem dJx4a65c_grow_92f84_22 : decode cJx4a65c_grow_92f84 22 = .ok (.iload_n 2, 1) := by decide +kernel
theorem dJx4a65c_grow_92f84_23 : decode cJx4a65c_grow_92f84 23 = .ok (.isub, 1) := by decide +kernel
theorem dJx4a65c_grow_92f84_24 : decode cJx4a65c_grow_92f84 24 = .ok (.iload_n 2, 1) := by decide +kernel
theorem dJx4a65c_grow_92f84_25 : decode cJx4a65c_grow_92f84 25 = .ok (.iconst 1, 1) := by decide +kernel
theorem dJx4a65c_grow_92f84_26 : decode cJx4a65c_grow_92f84 26 = .ok (.ishr, 1) := by decide +kernel
theorem dJx4a65c_grow_92f84_27 : decode cJx4a65c_grow_92f84 27 = .ok (.invokestatic 73, 3) := by decide +kernel
theorem dJx4a65c_grow_92f84_30 : decode cJx4a65c_grow_92f84 30 = .ok (.istore_n 3, 1) := by decide +kernel
theorem dJx4a65c_grow_92f84_31 : decode cJx4a65c_grow_92f84 31 = .ok (.aload_n 0, 1) := by decide +kernel
theorem dJx4a65c_grow_92f84_32 : decode cJx4a65c_grow_92f84 32 = .ok (.aload_n 0, 1) := by decide +kernel
theorem dJx4a65c_grow_92f84_33 : decode cJx4a65c_grow_92f84 33 = .ok (.getfield 9, 3) := by decide +kernel
theorem dJx4a65c_grow_92f84_36 : decode cJx4a65c_grow_92f84 36 = .ok (.iload_n 3, 1) := by decide +kernel
theorem dJx4a65c_grow_92f84_37 : decode cJx4a65c_grow_92f84 37 = .ok (.invokestatic 66, 3) := by decide +kernel
theorem dJx4a65c_grow_92f84_40 : decode cJx4a65c_grow_92f84 40 = .ok (.dup_x1, 1) := by decide +kernel
theorem dJx4a65c_grow_92f84_41 : decode cJx4a65c_grow_92f84 41 = .ok (.putfield 9, 3) := by decide +kernel
theorem dJx4a65c_grow_92f84_44 : decode cJx4a65c_grow_92f84 44 = .ok (.areturn, 1) := by decide +kernel
theorem dJx4a65c_grow_92f84_45 : decode cJx4a65c_grow_92f84 45 = .ok (.aload_n 0, 1) := by decide +kernel
theorem dJx4a65c_grow_92f84_46 : decode cJx4a65c_grow_92f84 46 = .ok (.bipush 10, 2) := by decide +kernel
theorem dJx4a65c_grow_92f84_48 : decode cJx4a65c_grow_92f84 48 = .ok (.iload_n 1, 1) := by decide +kernel
theorem dJx4a65c_grow_92f84_49 : decode cJx4a65c_grow_92f84 49 = .ok (.invokestatic 79, 3) := by decide +kernel
theorem dJx4a65c_grow_92f84_52 : decode cJx4a65c_grow_92f84 52 = .ok (.anewarray 7, 3) := by decide +kernel
theorem dJx4a65c_grow_92f84_55 : decode cJx4a65c_grow_92f84 55 = .ok (.dup_x1, 1) := by decide +kernel
theorem dJx4a65c_grow_92f84_56 : decode cJx4a65c_grow_92f84 56 = .ok (.putfield 9, 3) := by decide +kernel
theorem dJx4a65c_grow_92f84_59 : decode cJx4a65c_grow_92f84 59 = .ok (.areturn, 1) := by decide +kernel
theorem dJx4a65c_grow_d5877_0 : decode cJx4a65c_grow_d5877 0 = .ok (.aload_n 0, 1) := by decide +kernel
theorem dJx4a65c_grow_d5877_1 : decode cJx4a65c_grow_d5877 1 = .ok (.aload_n 0, 1) := by decide +kernel
theorem dJx4a65c_grow_d5877_2 : decode cJx4a65c_grow_d5877 2 = .ok (.getfield 48, 3) := by decide +kernel
theorem dJx4a65c_grow_d5877_5 : decode cJx4a65c_grow_d5877 5 = .ok (.iconst 1, 1) := by decide +kernel
theorem dJx4a65c_grow_d5877_6 : decode cJx4a65c_grow_d5877 6 = .ok (.iadd, 1) := by decide +kernel
theorem dJx4a65c_grow_d5877_7 : decode cJx4a65c_grow_d5877 7 = .ok (.invokevirtual 69, 3) := by decide +kernel
theorem dJx4a65c_grow_d5877_10 : decode cJx4a65c_grow_d5877 10 = .ok (.areturn, 1) := by decide +kernel
theorem dJx4a65c_size_8abf5_0 : decode cJx4a65c_size_8abf5 0 = .ok (.aload_n 0, 1) := by decide +kernel
theorem dJx4a65c_size_8abf5_1 : decode cJx4a65c_size_8abf5 1 = .ok (.getfield 48, 3) := by decide +kernel
theorem dJx4a65c_size_8abf5_4 : decode cJx4a65c_size_8abf5 4 = .ok (.ireturn, 1) := by decide +kernel
theorem dJx4a65c_add_72be8_0 : decode cJx4a65c_add_72be8 0 = .ok (.iload_n 3, 1) := by decide +kernel
theorem dJx4a65c_add_72be8_1 : decode cJx4a65c_add_72be8 1 = .ok (.aload_n 2, 1) := by decide +kernel
theorem dJx4a65c_add_72be8_2 : decode cJx4a65c_add_72be8 2 = .ok (.arraylength, 1) := by decide +kernel
theorem dJx4a65c_add_72be8_3 : decode cJx4a65c_add_72be8 3 = .ok (.if_icmp .ne 8, 3) := by decide +kernel
theorem dJx4a65c_add_72be8_6 : decode cJx4a65c_add_72be8 6 = .ok (.aload_n 0, 1) := by decide +kernel
theorem dJx4a65c_add_72be8_7 : decode cJx4a65c_add_72be8 7 = .ok (.invokevirtual 129, 3) := by decide +kernel
theorem dJx4a65c_add_72be8_10 : decode cJx4a65c_add_72be8 10 = .ok (.astore_n 2, 1) := by decide +kernel
theorem dJx4a65c_add_72be8_11 : decode cJx4a65c_add_72be8 11 = .ok (.aload_n 2, 1) := by decide +kernel
theorem dJx4a65c_add_72be8_12 : decode cJx4a65c_add_72be8 12 = .ok (.iload_n 3, 1) := by decide +kernel
theorem dJx4a65c_add_72be8_13 : decode cJx4a65c_add_72be8 13 = .ok (.aload_n 1, 1) := by decide +kernel
theorem dJx4a65c_add_72be8_14 : decode cJx4a65c_add_72be8 14 = .ok (.aastore, 1) := by decide +kernel
theorem dJx4a65c_add_72be8_15 : decode cJx4a65c_add_72be8 15 = .ok (.aload_n 0, 1) := by decide +kernel
theorem dJx4a65c_add_72be8_16 : decode cJx4a65c_add_72be8 16 = .ok (.iload_n 3, 1) := by decide +kernel
theorem dJx4a65c_add_72be8_17 : decode cJx4a65c_add_72be8 17 = .ok (.iconst 1, 1) := by decide +kernel
theorem dJx4a65c_add_72be8_18 : decode cJx4a65c_add_72be8 18 = .ok (.iadd, 1) := by decide +kernel
theorem dJx4a65c_add_72be8_19 : decode cJx4a65c_add_72be8 19 = .ok (.putfield 48, 3) := by decide +kernel
theorem dJx4a65c_add_72be8_22 : decode cJx4a65c_add_72be8 22 = .ok (.return_, 1) := by decide +kernel
theorem dJx4a65c_add_9ea2d_0 : decode cJx4a65c_add_9ea2d 0 = .ok (.aload_n 0, 1) := by decide +kernel
theorem dJx4a65c_add_9ea2d_1 : decode cJx4a65c_add_9ea2d 1 = .ok (.dup, 1) := by decide +kernel
theorem dJx4a65c_add_9ea2d_2 : decode cJx4a65c_add_9ea2d 2 = .ok (.getfield 63, 3) := by decide +kernel
theorem dJx4a65c_add_9ea2d_5 : decode cJx4a65c_add_9ea2d 5 = .ok (.iconst 1, 1) := by decide +kernel
theorem dJx4a65c_add_9ea2d_6 : decode cJx4a65c_add_9ea2d 6 = .ok (.iadd, 1) := by decide +kernel
theorem dJx4a65c_add_9ea2d_7 : decode cJx4a65c_add_9ea2d 7 = .ok (.putfield 63, 3) := by decide +kernel
theorem dJx4a65c_add_9ea2d_10 : decode cJx4a65c_add_9ea2d 10 = .ok (.aload_n 0, 1) := by decide +kernel
theorem dJx4a65c_add_9ea2d_11 : decode cJx4a65c_add_9ea2d 11 = .ok (.aload_n 1, 1) := by decide +kernel
theorem dJx4a65c_add_9ea2d_12 : decode cJx4a65c_add_9ea2d 12 = .ok (.aload_n 0, 1) := by decide +kernel
theorem dJx4a65c_add_9ea2d_13 : decode cJx4a65c_add_9ea2d 13 = .ok (.getfield 9, 3) := by decide +kernel
theorem dJx4a65c_add_9ea2d_16 : decode cJx4a65c_add_9ea2d 16 = .ok (.aload_n 0, 1) := by decide +kernel
theorem dJx4a65c_add_9ea2d_17 : decode cJx4a65c_add_9ea2d 17 = .ok (.getfield 48, 3) := by decide +kernel
theorem dJx4a65c_add_9ea2d_20 : decode cJx4a65c_add_9ea2d 20 = .ok (.invokevirtual 131, 3) := by decide +kernel
theorem dJx4a65c_add_9ea2d_23 : decode cJx4a65c_add_9ea2d 23 = .ok (.iconst 1, 1) := by decide +kernel
theorem dJx4a65c_add_9ea2d_24 : decode cJx4a65c_add_9ea2d 24 = .ok (.ireturn, 1) := by decide +kernel
theorem dJx4a65c_clear_da8c8_0 : decode cJx4a65c_clear_da8c8 0 = .ok (.aload_n 0, 1) := by decide +kernel
theorem dJx4a65c_clear_da8c8_1 : decode cJx4a65c_clear_da8c8 1 = .ok (.dup, 1) := by decide +kernel
theorem dJx4a65c_clear_da8c8_2 : decode cJx4a65c_clear_da8c8 2 = .ok (.getfield 63, 3) := by decide +kernel
theorem dJx4a65c_clear_da8c8_5 : decode cJx4a65c_clear_da8c8 5 = .ok (.iconst 1, 1) := by decide +kernel
theorem dJx4a65c_clear_da8c8_6 : decode cJx4a65c_clear_da8c8 6 = .ok (.iadd, 1) := by decide +kernel
theorem dJx4a65c_clear_da8c8_7 : decode cJx4a65c_clear_da8c8 7 = .ok (.putfield 63, 3) := by decide +kernel
theorem dJx4a65c_clear_da8c8_10 : decode cJx4a65c_clear_da8c8 10 = .ok (.aload_n 0, 1) := by decide +kernel
theorem dJx4a65c_clear_da8c8_11 : decode cJx4a65c_clear_da8c8 11 = .ok (.getfield 9, 3) := by decide +kernel
theorem dJx4a65c_clear_da8c8_14 : decode cJx4a65c_clear_da8c8 14 = .ok (.astore_n 1, 1) := by decide +kernel
theorem dJx4a65c_clear_da8c8_15 : decode cJx4a65c_clear_da8c8 15 = .ok (.aload_n 0, 1) := by decide +kernel
theorem dJx4a65c_clear_da8c8_16 : decode cJx4a65c_clear_da8c8 16 = .ok (.getfield 48, 3) := by decide +kernel
theorem dJx4a65c_clear_da8c8_19 : decode cJx4a65c_clear_da8c8 19 = .ok (.istore_n 2, 1) := by decide +kernel
theorem dJx4a65c_clear_da8c8_20 : decode cJx4a65c_clear_da8c8 20 = .ok (.aload_n 0, 1) := by decide +kernel
theorem dJx4a65c_clear_da8c8_21 : decode cJx4a65c_clear_da8c8 21 = .ok (.iconst 0, 1) := by decide +kernel
theorem dJx4a65c_clear_da8c8_22 : decode cJx4a65c_clear_da8c8 22 = .ok (.dup_x1, 1) := by decide +kernel
theorem dJx4a65c_clear_da8c8_23 : decode cJx4a65c_clear_da8c8 23 = .ok (.putfield 48, 3) := by decide +kernel
theorem dJx4a65c_clear_da8c8_26 : decode cJx4a65c_clear_da8c8 26 = .ok (.istore_n 3, 1) := by decide +kernel
theorem dJx4a65c_clear_da8c8_27 : decode cJx4a65c_clear_da8c8 27 = .ok (.iload_n 3, 1) := by decide +kernel
theorem dJx4a65c_clear_da8c8_28 : decode cJx4a65c_clear_da8c8 28 = .ok (.iload_n 2, 1) := by decide +kernel
theorem dJx4a65c_clear_da8c8_29 : decode cJx4a65c_clear_da8c8 29 = .ok (.if_icmp .ge 13, 3) := by decide +kernel
theorem dJx4a65c_clear_da8c8_32 : decode cJx4a65c_clear_da8c8 32 = .ok (.aload_n 1, 1) := by decide +kernel
theorem dJx4a65c_clear_da8c8_33 : decode cJx4a65c_clear_da8c8 33 = .ok (.iload_n 3, 1) := by decide +kernel
theorem dJx4a65c_clear_da8c8_34 : decode cJx4a65c_clear_da8c8 34 = .ok (.aconst_null, 1) := by decide +kernel
theorem dJx4a65c_clear_da8c8_35 : decode cJx4a65c_clear_da8c8 35 = .ok (.aastore, 1) := by decide +kernel
theorem dJx4a65c_clear_da8c8_36 : decode cJx4a65c_clear_da8c8 36 = .ok (.iinc 3 1, 3) := by decide +kernel
theorem dJx4a65c_clear_da8c8_39 : decode cJx4a65c_clear_da8c8 39 = .ok (.goto (-12), 3) := by decide +kernel
theorem dJx4a65c_clear_da8c8_42 : decode cJx4a65c_clear_da8c8 42 = .ok (.return_, 1) := by decide +kernel
theorem dJx4a65c_iterator_32c93_0 : decode cJx4a65c_iterator_32c93 0 = .ok (.new 267, 3) := by decide +kernel
theorem dJx4a65c_iterator_32c93_3 : decode cJx4a65c_iterator_32c93 3 = .ok (.dup, 1) := by decide +kernel
theorem dJx4a65c_iterator_32c93_4 : decode cJx4a65c_iterator_32c93 4 = .ok (.aload_n 0, 1) := by decide +kernel
theorem dJx4a65c_iterator_32c93_5 : decode cJx4a65c_iterator_32c93 5 = .ok (.invokespecial 269, 3) := by decide +kernel
theorem dJx4a65c_iterator_32c93_8 : decode cJx4a65c_iterator_32c93 8 = .ok (.areturn, 1) := by decide +kernel
theorem dL_size_0 : decode cL_size 0 = .ok (.aload_n 2, 1) := by decide +kernel
theorem dL_size_1 : decode cL_size 1 = .ok (.iconst 0, 1) := by decide +kernel
theorem dL_size_2 : decode cL_size 2 = .ok (.aload_n 0, 1) := by decide +kernel
theorem dL_size_3 : decode cL_size 3 = .ok (.iload_n 1, 1) := by decide +kernel
theorem dL_size_4 : decode cL_size 4 = .ok (.invokevirtual 7, 3) := by decide +kernel
theorem dL_size_7 : decode cL_size 7 = .ok (.i2l, 1) := by decide +kernel
theorem dL_size_8 : decode cL_size 8 = .ok (.lastore, 1) := by decide +kernel
theorem dL_size_9 : decode cL_size 9 = .ok (.goto 6, 3) := by decide +kernel
theorem dL_size_12 : decode cL_size 12 = .ok (.astore_n 3, 1) := by decide +kernel
theorem dL_size_13 : decode cL_size 13 = .ok (.iconst 1, 1) := by decide +kernel
theorem dL_size_14 : decode cL_size 14 = .ok (.ireturn, 1) := by decide +kernel
theorem dL_size_15 : decode cL_size 15 = .ok (.iconst 0, 1) := by decide +kernel
theorem dL_size_16 : decode cL_size 16 = .ok (.ireturn, 1) := by decide +kernel
theorem dL_map_0 : decode cL_map 0 = .ok (.aload_n 2, 1) := by decide +kernel
theorem dL_map_1 : decode cL_map 1 = .ok (.iconst 0, 1) := by decide +kernel
theorem dL_map_2 : decode cL_map 2 = .ok (.aload_n 0, 1) := by decide +kernel
theorem dL_map_3 : decode cL_map 3 = .ok (.iload_n 1, 1) := by decide +kernel
theorem dL_map_4 : decode cL_map 4 = .ok (.invokevirtual 15, 3) := by decide +kernel
theorem dL_map_7 : decode cL_map 7 = .ok (.i2l, 1) := by decide +kernel
theorem dL_map_8 : decode cL_map 8 = .ok (.lastore, 1) := by decide +kernel
theorem dL_map_9 : decode cL_map 9 = .ok (.goto 9, 3) := by decide +kernel
theorem dL_map_12 : decode cL_map 12 = .ok (.astore_n 3, 1) := by decide +kernel
theorem dL_map_13 : decode cL_map 13 = .ok (.iconst 1, 1) := by decide +kernel
theorem dL_map_14 : decode cL_map 14 = .ok (.ireturn, 1) := by decide +kernel
theorem dL_map_15 : decode cL_map 15 = .ok (.astore_n 3, 1) := by decide +kernel
theorem dL_map_16 : decode cL_map 16 = .ok (.iconst 2, 1) := by decide +kernel
theorem dL_map_17 : decode cL_map 17 = .ok (.ireturn, 1) := by decide +kernel
theorem dL_map_18 : decode cL_map 18 = .ok (.iconst 0, 1) := by decide +kernel
theorem dL_map_19 : decode cL_map 19 = .ok (.ireturn, 1) := by decide +kernel
theorem dL_then_0 : decode cL_then 0 = .ok (.aload_n 3, 1) := by decide +kernel
theorem dL_then_1 : decode cL_then 1 = .ok (.iconst 0, 1) := by decide +kernel
theorem dL_then_2 : decode cL_then 2 = .ok (.aload_n 0, 1) := by decide +kernel
theorem dL_then_3 : decode cL_then 3 = .ok (.iload_n 1, 1) := by decide +kernel
theorem dL_then_4 : decode cL_then 4 = .ok (.iload_n 2, 1) := by decide +kernel
theorem dL_then_5 : decode cL_then 5 = .ok (.invokevirtual 20, 3) := by decide +kernel
theorem dL_then_8 : decode cL_then 8 = .ok (.i2l, 1) := by decide +kernel
theorem dL_then_9 : decode cL_then 9 = .ok (.lastore, 1) := by decide +kernel
theorem dL_then_10 : decode cL_then 10 = .ok (.goto 15, 3) := by decide +kernel
theorem dL_then_13 : decode cL_then 13 = .ok (.astore 4, 2) := by decide +kernel
theorem dL_then_15 : decode cL_then 15 = .ok (.iconst 1, 1) := by decide +kernel
theorem dL_then_16 : decode cL_then 16 = .ok (.ireturn, 1) := by decide +kernel
theorem dL_then_17 : decode cL_then 17 = .ok (.astore 4, 2) := by decide +kernel
theorem dL_then_19 : decode cL_then 19 = .ok (.iconst 2, 1) := by decide +kernel
theorem dL_then_20 : decode cL_then 20 = .ok (.ireturn, 1) := by decide +kernel
theorem dL_then_21 : decode cL_then 21 = .ok (.astore 4, 2) := by decide +kernel
theorem dL_then_23 : decode cL_then 23 = .ok (.iconst 3, 1) := by decide +kernel
theorem dL_then_24 : decode cL_then 24 = .ok (.ireturn, 1) := by decide +kernel
theorem dL_then_25 : decode cL_then 25 = .ok (.iconst 0, 1) := by decide +kernel
theorem dL_then_26 : decode cL_then 26 = .ok (.ireturn, 1) := by decide +kernel
theorem dL_walker_0 : decode cL_walker 0 = .ok (.aload_n 3, 1) := by decide +kernel
theorem dL_walker_1 : decode cL_walker 1 = .ok (.iconst 0, 1) := by decide +kernel
theorem dL_walker_2 : decode cL_walker 2 = .ok (.aload_n 0, 1) := by decide +kernel
theorem dL_walker_3 : decode cL_walker 3 = .ok (.iload_n 1, 1) := by decide +kernel
theorem dL_walker_4 : decode cL_walker 4 = .ok (.iload_n 2, 1) := by decide +kernel
theorem dL_walker_5 : decode cL_walker 5 = .ok (.invokevirtual 26, 3) := by decide +kernel
theorem dL_walker_8 : decode cL_walker 8 = .ok (.i2l, 1) := by decide +kernel
theorem dL_walker_9 : decode cL_walker 9 = .ok (.lastore, 1) := by decide +kernel
theorem dL_walker_10 : decode cL_walker 10 = .ok (.goto 15, 3) := by decide +kernel
theorem dL_walker_13 : decode cL_walker 13 = .ok (.astore 4, 2) := by decide +kernel
theorem dL_walker_15 : decode cL_walker 15 = .ok (.iconst 1, 1) := by decide +kernel
theorem dL_walker_16 : decode cL_walker 16 = .ok (.ireturn, 1) := by decide +kernel
theorem dL_walker_17 : decode cL_walker 17 = .ok (.astore 4, 2) := by decide +kernel
theorem dL_walker_19 : decode cL_walker 19 = .ok (.iconst 2, 1) := by decide +kernel
theorem dL_walker_20 : decode cL_walker 20 = .ok (.ireturn, 1) := by decide +kernel
theorem dL_walker_21 : decode cL_walker 21 = .ok (.astore 4, 2) := by decide +kernel
theorem dL_walker_23 : decode cL_walker 23 = .ok (.iconst 3, 1) := by decide +kernel
theorem dL_walker_24 : decode cL_walker 24 = .ok (.ireturn, 1) := by decide +kernel
theorem dL_walker_25 : decode cL_walker 25 = .ok (.iconst 0, 1) := by decide +kernel
theorem dL_walker_26 : decode cL_walker 26 = .ok (.ireturn, 1) := by decide +kernel
theorem dL_claim_0 : decode cL_claim 0 = .ok (.aload 4, 2) := by decide +kernel
theorem dL_claim_2 : decode cL_claim 2 = .ok (.iconst 0, 1) := by decide +kernel
theorem dL_claim_3 : decode cL_claim 3 = .ok (.aload_n 0, 1) := by decide +kernel
theorem dL_claim_4 : decode cL_claim 4 = .ok (.iload_n 1, 1) := by decide +kernel
theorem dL_claim_5 : decode cL_claim 5 = .ok (.iload_n 2, 1) := by decide +kernel
theorem dL_claim_6 : decode cL_claim 6 = .ok (.iload_n 3, 1) := by decide +kernel
theorem dL_claim_7 : decode cL_claim 7 = .ok (.invokevirtual 29, 3) := by decide +kernel
theorem dL_claim_10 : decode cL_claim 10 = .ok (.i2l, 1) := by decide +kernel
theorem dL_claim_11 : decode cL_claim 11 = .ok (.lastore, 1) := by decide +kernel
theorem dL_claim_12 : decode cL_claim 12 = .ok (.goto 15, 3) := by decide +kernel
theorem dL_claim_15 : decode cL_claim 15 = .ok (.astore 5, 2) := by decide +kernel
theorem dL_claim_17 : decode cL_claim 17 = .ok (.iconst 1, 1) := by decide +kernel
theorem dL_claim_18 : decode cL_claim 18 = .ok (.ireturn, 1) := by decide +kernel
theorem dL_claim_19 : decode cL_claim 19 = .ok (.astore 5, 2) := by decide +kernel
theorem dL_claim_21 : decode cL_claim 21 = .ok (.iconst 2, 1) := by decide +kernel
theorem dL_claim_22 : decode cL_claim 22 = .ok (.ireturn, 1) := by decide +kernel
theorem dL_claim_23 : decode cL_claim 23 = .ok (.astore 5, 2) := by decide +kernel
theorem dL_claim_25 : decode cL_claim 25 = .ok (.iconst 3, 1) := by decide +kernel
theorem dL_claim_26 : decode cL_claim 26 = .ok (.ireturn, 1) := by decide +kernel
theorem dL_claim_27 : decode cL_claim 27 = .ok (.iconst 0, 1) := by decide +kernel
theorem dL_claim_28 : decode cL_claim 28 = .ok (.ireturn, 1) := by decide +kernel
theorem dL_send_0 : decode cL_send 0 = .ok (.aload 4, 2) := by decide +kernel
theorem dL_send_2 : decode cL_send 2 = .ok (.iconst 0, 1) := by decide +kernel
theorem dL_send_3 : decode cL_send 3 = .ok (.aload_n 0, 1) := by decide +kernel
theorem dL_send_4 : decode cL_send 4 = .ok (.iload_n 1, 1) := by decide +kernel
theorem dL_send_5 : decode cL_send 5 = .ok (.iload_n 2, 1) := by decide +kernel
theorem dL_send_6 : decode cL_send 6 = .ok (.iload_n 3, 1) := by decide +kernel
theorem dL_send_7 : decode cL_send 7 = .ok (.invokevirtual 33, 3) := by decide +kernel
theorem dL_send_10 : decode cL_send 10 = .ok (.i2l, 1) := by decide +kernel
theorem dL_send_11 : decode cL_send 11 = .ok (.lastore, 1) := by decide +kernel
theorem dL_send_12 : decode cL_send 12 = .ok (.goto 15, 3) := by decide +kernel
theorem dL_send_15 : decode cL_send 15 = .ok (.astore 5, 2) := by decide +kernel
theorem dL_send_17 : decode cL_send 17 = .ok (.iconst 1, 1) := by decide +kernel
theorem dL_send_18 : decode cL_send 18 = .ok (.ireturn, 1) := by decide +kernel
theorem dL_send_19 : decode cL_send 19 = .ok (.astore 5, 2) := by decide +kernel
theorem dL_send_21 : decode cL_send 21 = .ok (.iconst 2, 1) := by decide +kernel
theorem dL_send_22 : decode cL_send 22 = .ok (.ireturn, 1) := by decide +kernel
theorem dL_send_23 : decode cL_send 23 = .ok (.astore 5, 2) := by decide +kernel
theorem dL_send_25 : decode cL_send 25 = .ok (.iconst 3, 1) := by decide +kernel
theorem dL_send_26 : decode cL_send 26 = .ok (.ireturn, 1) := by decide +kernel
theorem dL_send_27 : decode cL_send 27 = .ok (.iconst 0, 1) := by decide +kernel
theorem dL_send_28 : decode cL_send 28 = .ok (.ireturn, 1) := by decide +kernel
theorem dL_trial_0 : decode cL_trial 0 = .ok (.aload_n 2, 1) := by decide +kernel
theorem dL_trial_1 : decode cL_trial 1 = .ok (.iconst 0, 1) := by decide +kernel
theorem dL_trial_2 : decode cL_trial 2 = .ok (.aload_n 0, 1) := by decide +kernel
theorem dL_trial_3 : decode cL_trial 3 = .ok (.iload_n 1, 1) := by decide +kernel
theorem dL_trial_4 : decode cL_trial 4 = .ok (.invokevirtual 36, 3) := by decide +kernel
theorem dL_trial_7 : decode cL_trial 7 = .ok (.ifCond .eq 7, 3) := by decide +kernel
theorem dL_trial_10 : decode cL_trial 10 = .ok (.lconst 1, 1) := by decide +kernel
theorem dL_trial_11 : decode cL_trial 11 = .ok (.goto 4, 3) := by decide +kernel
theorem dL_trial_14 : decode cL_trial 14 = .ok (.lconst 0, 1) := by decide +kernel
theorem dL_trial_15 : decode cL_trial 15 = .ok (.lastore, 1) := by decide +kernel
theorem dL_trial_16 : decode cL_trial 16 = .ok (.goto 6, 3) := by decide +kernel
theorem dL_trial_19 : decode cL_trial 19 = .ok (.astore_n 3, 1) := by decide +kernel
theorem dL_trial_20 : decode cL_trial 20 = .ok (.iconst 1, 1) := by decide +kernel
theorem dL_trial_21 : decode cL_trial 21 = .ok (.ireturn, 1) := by decide +kernel
theorem dL_trial_22 : decode cL_trial 22 = .ok (.iconst 0, 1) := by decide +kernel
theorem dL_trial_23 : decode cL_trial 23 = .ok (.ireturn, 1) := by decide +kernel
theorem dL_objects_0 : decode cL_objects 0 = .ok (.aload_n 2, 1) := by decide +kernel
theorem dL_objects_1 : decode cL_objects 1 = .ok (.iconst 0, 1) := by decide +kernel
theorem dL_objects_2 : decode cL_objects 2 = .ok (.aload_n 0, 1) := by decide +kernel
theorem dL_objects_3 : decode cL_objects 3 = .ok (.iload_n 1, 1) := by decide +kernel
theorem dL_objects_4 : decode cL_objects 4 = .ok (.invokevirtual 40, 3) := by decide +kernel
theorem dL_objects_7 : decode cL_objects 7 = .ok (.i2l, 1) := by decide +kernel
theorem dL_objects_8 : decode cL_objects 8 = .ok (.lastore, 1) := by decide +kernel
theorem dL_objects_9 : decode cL_objects 9 = .ok (.goto 6, 3) := by decide +kernel
theorem dL_objects_12 : decode cL_objects 12 = .ok (.astore_n 3, 1) := by decide +kernel
theorem dL_objects_13 : decode cL_objects 13 = .ok (.iconst 1, 1) := by decide +kernel
theorem dL_objects_14 : decode cL_objects 14 = .ok (.ireturn, 1) := by decide +kernel
theorem dL_objects_15 : decode cL_objects 15 = .ok (.iconst 0, 1) := by decide +kernel
theorem dL_objects_16 : decode cL_objects 16 = .ok (.ireturn, 1) := by decide +kernel
theorem dL_unrank_0 : decode cL_unrank 0 = .ok (.aload_n 3, 1) := by decide +kernel
theorem dL_unrank_1 : decode cL_unrank 1 = .ok (.iconst 0, 1) := by decide +kernel
theorem dL_unrank_2 : decode cL_unrank 2 = .ok (.aload_n 0, 1) := by decide +kernel
theorem dL_unrank_3 : decode cL_unrank 3 = .ok (.iload_n 1, 1) := by decide +kernel
theorem dL_unrank_4 : decode cL_unrank 4 = .ok (.iload_n 2, 1) := by decide +kernel
theorem dL_unrank_5 : decode cL_unrank 5 = .ok (.invokevirtual 43, 3) := by decide +kernel
theorem dL_unrank_8 : decode cL_unrank 8 = .ok (.i2l, 1) := by decide +kernel
theorem dL_unrank_9 : decode cL_unrank 9 = .ok (.lastore, 1) := by decide +kernel
theorem dL_unrank_10 : decode cL_unrank 10 = .ok (.goto 7, 3) := by decide +kernel
theorem dL_unrank_13 : decode cL_unrank 13 = .ok (.astore 4, 2) := by decide +kernel
theorem dL_unrank_15 : decode cL_unrank 15 = .ok (.iconst 1, 1) := by decide +kernel
theorem dL_unrank_16 : decode cL_unrank 16 = .ok (.ireturn, 1) := by decide +kernel
theorem dL_unrank_17 : decode cL_unrank 17 = .ok (.iconst 0, 1) := by decide +kernel
theorem dL_unrank_18 : decode cL_unrank 18 = .ok (.ireturn, 1) := by decide +kernel
theorem dL_rank_0 : decode cL_rank 0 = .ok (.aload_n 3, 1) := by decide +kernel
theorem dL_rank_1 : decode cL_rank 1 = .ok (.iconst 0, 1) := by decide +kernel
theorem dL_rank_2 : decode cL_rank 2 = .ok (.aload_n 0, 1) := by decide +kernel
theorem dL_rank_3 : decode cL_rank 3 = .ok (.iload_n 1, 1) := by decide +kernel
theorem dL_rank_4 : decode cL_rank 4 = .ok (.iload_n 2, 1) := by decide +kernel
theorem dL_rank_5 : decode cL_rank 5 = .ok (.invokevirtual 46, 3) := by decide +kernel
theorem dL_rank_8 : decode cL_rank 8 = .ok (.i2l, 1) := by decide +kernel
theorem dL_rank_9 : decode cL_rank 9 = .ok (.lastore, 1) := by decide +kernel
theorem dL_rank_10 : decode cL_rank 10 = .ok (.goto 7, 3) := by decide +kernel
theorem dL_rank_13 : decode cL_rank 13 = .ok (.astore 4, 2) := by decide +kernel
theorem dL_rank_15 : decode cL_rank 15 = .ok (.iconst 1, 1) := by decide +kernel
theorem dL_rank_16 : decode cL_rank 16 = .ok (.ireturn, 1) := by decide +kernel
theorem dL_rank_17 : decode cL_rank 17 = .ok (.iconst 0, 1) := by decide +kernel
theorem dL_rank_18 : decode cL_rank 18 = .ok (.ireturn, 1) := by decide +kernel
theorem dL_statistic_0 : decode cL_statistic 0 = .ok (.aload 4, 2) := by decide +kernel
theorem dL_statistic_2 : decode cL_statistic 2 = .ok (.iconst 0, 1) := by decide +kernel
theorem dL_statistic_3 : decode cL_statistic 3 = .ok (.aload_n 0, 1) := by decide +kernel
theorem dL_statistic_4 : decode cL_statistic 4 = .ok (.iload_n 1, 1) := by decide +kernel
theorem dL_statistic_5 : decode cL_statistic 5 = .ok (.iload_n 2, 1) := by decide +kernel
theorem dL_statistic_6 : decode cL_statistic 6 = .ok (.iload_n 3, 1) := by decide +kernel
theorem dL_statistic_7 : decode cL_statistic 7 = .ok (.invokevirtual 49, 3) := by decide +kernel
theorem dL_statistic_10 : decode cL_statistic 10 = .ok (.i2l, 1) := by decide +kernel
theorem dL_statistic_11 : decode cL_statistic 11 = .ok (.lastore, 1) := by decide +kernel
theorem dL_statistic_12 : decode cL_statistic 12 = .ok (.goto 11, 3) := by decide +kernel
theorem dL_statistic_15 : decode cL_statistic 15 = .ok (.astore 5, 2) := by decide +kernel
theorem dL_statistic_17 : decode cL_statistic 17 = .ok (.iconst 1, 1) := by decide +kernel
theorem dL_statistic_18 : decode cL_statistic 18 = .ok (.ireturn, 1) := by decide +kernel
theorem dL_statistic_19 : decode cL_statistic 19 = .ok (.astore 5, 2) := by decide +kernel
theorem dL_statistic_21 : decode cL_statistic 21 = .ok (.iconst 2, 1) := by decide +kernel
theorem dL_statistic_22 : decode cL_statistic 22 = .ok (.ireturn, 1) := by decide +kernel
theorem dL_statistic_23 : decode cL_statistic 23 = .ok (.iconst 0, 1) := by decide +kernel
theorem dL_statistic_24 : decode cL_statistic 24 = .ok (.ireturn, 1) := by decide +kernel
theorem dL_spread_0 : decode cL_spread 0 = .ok (.aload 4, 2) := by decide +kernel
theorem dL_spread_2 : decode cL_spread 2 = .ok (.iconst 0, 1) := by decide +kernel
theorem dL_spread_3 : decode cL_spread 3 = .ok (.aload_n 0, 1) := by decide +kernel
theorem dL_spread_4 : decode cL_spread 4 = .ok (.iload_n 1, 1) := by decide +kernel
theorem dL_spread_5 : decode cL_spread 5 = .ok (.iload_n 2, 1) := by decide +kernel
theorem dL_spread_6 : decode cL_spread 6 = .ok (.iload_n 3, 1) := by decide +kernel
theorem dL_spread_7 : decode cL_spread 7 = .ok (.invokevirtual 52, 3) := by decide +kernel
theorem dL_spread_10 : decode cL_spread 10 = .ok (.i2l, 1) := by decide +kernel
theorem dL_spread_11 : decode cL_spread 11 = .ok (.lastore, 1) := by decide +kernel
theorem dL_spread_12 : decode cL_spread 12 = .ok (.goto 11, 3) := by decide +kernel
theorem dL_spread_15 : decode cL_spread 15 = .ok (.astore 5, 2) := by decide +kernel
theorem dL_spread_17 : decode cL_spread 17 = .ok (.iconst 1, 1) := by decide +kernel
theorem dL_spread_18 : decode cL_spread 18 = .ok (.ireturn, 1) := by decide +kernel
theorem dL_spread_19 : decode cL_spread 19 = .ok (.astore 5, 2) := by decide +kernel
theorem dL_spread_21 : decode cL_spread 21 = .ok (.iconst 2, 1) := by decide +kernel
theorem dL_spread_22 : decode cL_spread 22 = .ok (.ireturn, 1) := by decide +kernel
theorem dL_spread_23 : decode cL_spread 23 = .ok (.iconst 0, 1) := by decide +kernel
theorem dL_spread_24 : decode cL_spread 24 = .ok (.ireturn, 1) := by decide +kernel
theorem dL_signs_0 : decode cL_signs 0 = .ok (.aload_n 3, 1) := by decide +kernel
theorem dL_signs_1 : decode cL_signs 1 = .ok (.iconst 0, 1) := by decide +kernel
theorem dL_signs_2 : decode cL_signs 2 = .ok (.aload_n 0, 1) := by decide +kernel
theorem dL_signs_3 : decode cL_signs 3 = .ok (.iload_n 1, 1) := by decide +kernel
theorem dL_signs_4 : decode cL_signs 4 = .ok (.iload_n 2, 1) := by decide +kernel
theorem dL_signs_5 : decode cL_signs 5 = .ok (.invokevirtual 55, 3) := by decide +kernel
theorem dL_signs_8 : decode cL_signs 8 = .ok (.i2l, 1) := by decide +kernel
theorem dL_signs_9 : decode cL_signs 9 = .ok (.lastore, 1) := by decide +kernel
theorem dL_signs_10 : decode cL_signs 10 = .ok (.goto 11, 3) := by decide +kernel
theorem dL_signs_13 : decode cL_signs 13 = .ok (.astore 4, 2) := by decide +kernel
theorem dL_signs_15 : decode cL_signs 15 = .ok (.iconst 1, 1) := by decide +kernel
theorem dL_signs_16 : decode cL_signs 16 = .ok (.ireturn, 1) := by decide +kernel
theorem dL_signs_17 : decode cL_signs 17 = .ok (.astore 4, 2) := by decide +kernel
theorem dL_signs_19 : decode cL_signs 19 = .ok (.iconst 2, 1) := by decide +kernel
theorem dL_signs_20 : decode cL_signs 20 = .ok (.ireturn, 1) := by decide +kernel
theorem dL_signs_21 : decode cL_signs 21 = .ok (.iconst 0, 1) := by decide +kernel
theorem dL_signs_22 : decode cL_signs 22 = .ok (.ireturn, 1) := by decide +kernel
theorem dL_alike_0 : decode cL_alike 0 = .ok (.aload 5, 2) := by decide +kernel
theorem dL_alike_2 : decode cL_alike 2 = .ok (.iconst 0, 1) := by decide +kernel
theorem dL_alike_3 : decode cL_alike 3 = .ok (.aload_n 0, 1) := by decide +kernel
theorem dL_alike_4 : decode cL_alike 4 = .ok (.iload_n 1, 1) := by decide +kernel
theorem dL_alike_5 : decode cL_alike 5 = .ok (.iload_n 2, 1) := by decide +kernel
theorem dL_alike_6 : decode cL_alike 6 = .ok (.iload_n 3, 1) := by decide +kernel
theorem dL_alike_7 : decode cL_alike 7 = .ok (.iload 4, 2) := by decide +kernel
theorem dL_alike_9 : decode cL_alike 9 = .ok (.invokevirtual 58, 3) := by decide +kernel
theorem dL_alike_12 : decode cL_alike 12 = .ok (.ifCond .eq 7, 3) := by decide +kernel
theorem dL_alike_15 : decode cL_alike 15 = .ok (.lconst 1, 1) := by decide +kernel
theorem dL_alike_16 : decode cL_alike 16 = .ok (.goto 4, 3) := by decide +kernel
theorem dL_alike_19 : decode cL_alike 19 = .ok (.lconst 0, 1) := by decide +kernel
theorem dL_alike_20 : decode cL_alike 20 = .ok (.lastore, 1) := by decide +kernel
theorem dL_alike_21 : decode cL_alike 21 = .ok (.goto 11, 3) := by decide +kernel
theorem dL_alike_24 : decode cL_alike 24 = .ok (.astore 6, 2) := by decide +kernel
theorem dL_alike_26 : decode cL_alike 26 = .ok (.iconst 1, 1) := by decide +kernel
theorem dL_alike_27 : decode cL_alike 27 = .ok (.ireturn, 1) := by decide +kernel
theorem dL_alike_28 : decode cL_alike 28 = .ok (.astore 6, 2) := by decide +kernel
theorem dL_alike_30 : decode cL_alike 30 = .ok (.iconst 2, 1) := by decide +kernel
theorem dL_alike_31 : decode cL_alike 31 = .ok (.ireturn, 1) := by decide +kernel
theorem dL_alike_32 : decode cL_alike 32 = .ok (.iconst 0, 1) := by decide +kernel
theorem dL_alike_33 : decode cL_alike 33 = .ok (.ireturn, 1) := by decide +kernel
theorem dL_contains_0 : decode cL_contains 0 = .ok (.aload_n 3, 1) := by decide +kernel
theorem dL_contains_1 : decode cL_contains 1 = .ok (.iconst 0, 1) := by decide +kernel
theorem dL_contains_2 : decode cL_contains 2 = .ok (.aload_n 0, 1) := by decide +kernel
theorem dL_contains_3 : decode cL_contains 3 = .ok (.iload_n 1, 1) := by decide +kernel
theorem dL_contains_4 : decode cL_contains 4 = .ok (.iload_n 2, 1) := by decide +kernel
theorem dL_contains_5 : decode cL_contains 5 = .ok (.invokevirtual 62, 3) := by decide +kernel
theorem dL_contains_8 : decode cL_contains 8 = .ok (.i2l, 1) := by decide +kernel
theorem dL_contains_9 : decode cL_contains 9 = .ok (.lastore, 1) := by decide +kernel
theorem dL_contains_10 : decode cL_contains 10 = .ok (.goto 11, 3) := by decide +kernel
theorem dL_contains_13 : decode cL_contains 13 = .ok (.astore 4, 2) := by decide +kernel
theorem dL_contains_15 : decode cL_contains 15 = .ok (.iconst 1, 1) := by decide +kernel
theorem dL_contains_16 : decode cL_contains 16 = .ok (.ireturn, 1) := by decide +kernel
theorem dL_contains_17 : decode cL_contains 17 = .ok (.astore 4, 2) := by decide +kernel
theorem dL_contains_19 : decode cL_contains 19 = .ok (.iconst 2, 1) := by decide +kernel
