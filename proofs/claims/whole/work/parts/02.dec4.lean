theorem dX5_mendNow_7 : decode cX5_mendNow 7 = .ok (.iconst 0, 1) := by decide +kernel
theorem dX5_mendNow_8 : decode cX5_mendNow 8 = .ok (.istore_n 3, 1) := by decide +kernel
theorem dX5_mendNow_9 : decode cX5_mendNow 9 = .ok (.iload_n 3, 1) := by decide +kernel
theorem dX5_mendNow_10 : decode cX5_mendNow 10 = .ok (.aload_n 0, 1) := by decide +kernel
theorem dX5_mendNow_11 : decode cX5_mendNow 11 = .ok (.getfield 134, 3) := by decide +kernel
theorem dX5_mendNow_14 : decode cX5_mendNow 14 = .ok (.if_icmp .ge 81, 3) := by decide +kernel
theorem dX5_mendNow_17 : decode cX5_mendNow 17 = .ok (.aload_n 0, 1) := by decide +kernel
theorem dX5_mendNow_18 : decode cX5_mendNow 18 = .ok (.getfield 19, 3) := by decide +kernel
theorem dX5_mendNow_21 : decode cX5_mendNow 21 = .ok (.iload_n 3, 1) := by decide +kernel
theorem dX5_mendNow_22 : decode cX5_mendNow 22 = .ok (.iaload, 1) := by decide +kernel
theorem dX5_mendNow_23 : decode cX5_mendNow 23 = .ok (.iconst (-1), 1) := by decide +kernel
theorem dX5_mendNow_24 : decode cX5_mendNow 24 = .ok (.if_icmp .eq 65, 3) := by decide +kernel
theorem dX5_mendNow_27 : decode cX5_mendNow 27 = .ok (.aload_n 0, 1) := by decide +kernel
theorem dX5_mendNow_28 : decode cX5_mendNow 28 = .ok (.getfield 16, 3) := by decide +kernel
theorem dX5_mendNow_31 : decode cX5_mendNow 31 = .ok (.iload_n 3, 1) := by decide +kernel
theorem dX5_mendNow_32 : decode cX5_mendNow 32 = .ok (.iaload, 1) := by decide +kernel
theorem dX5_mendNow_33 : decode cX5_mendNow 33 = .ok (.bipush 9, 2) := by decide +kernel
theorem dX5_mendNow_35 : decode cX5_mendNow 35 = .ok (.if_icmp .ge 54, 3) := by decide +kernel
theorem dX5_mendNow_38 : decode cX5_mendNow 38 = .ok (.aload_n 0, 1) := by decide +kernel
theorem dX5_mendNow_39 : decode cX5_mendNow 39 = .ok (.getfield 16, 3) := by decide +kernel
theorem dX5_mendNow_42 : decode cX5_mendNow 42 = .ok (.iload_n 3, 1) := by decide +kernel
theorem dX5_mendNow_43 : decode cX5_mendNow 43 = .ok (.dup2, 1) := by decide +kernel
theorem dX5_mendNow_44 : decode cX5_mendNow 44 = .ok (.iaload, 1) := by decide +kernel
theorem dX5_mendNow_45 : decode cX5_mendNow 45 = .ok (.iconst 1, 1) := by decide +kernel
theorem dX5_mendNow_46 : decode cX5_mendNow 46 = .ok (.iadd, 1) := by decide +kernel
theorem dX5_mendNow_47 : decode cX5_mendNow 47 = .ok (.iastore, 1) := by decide +kernel
theorem dX5_mendNow_48 : decode cX5_mendNow 48 = .ok (.aload_n 0, 1) := by decide +kernel
theorem dX5_mendNow_49 : decode cX5_mendNow 49 = .ok (.invokevirtual 259, 3) := by decide +kernel
theorem dX5_mendNow_52 : decode cX5_mendNow 52 = .ok (.istore 4, 2) := by decide +kernel
theorem dX5_mendNow_54 : decode cX5_mendNow 54 = .ok (.aload_n 0, 1) := by decide +kernel
theorem dX5_mendNow_55 : decode cX5_mendNow 55 = .ok (.getfield 16, 3) := by decide +kernel
theorem dX5_mendNow_58 : decode cX5_mendNow 58 = .ok (.iload_n 3, 1) := by decide +kernel
theorem dX5_mendNow_59 : decode cX5_mendNow 59 = .ok (.dup2, 1) := by decide +kernel
theorem dX5_mendNow_60 : decode cX5_mendNow 60 = .ok (.iaload, 1) := by decide +kernel
theorem dX5_mendNow_61 : decode cX5_mendNow 61 = .ok (.iconst 1, 1) := by decide +kernel
theorem dX5_mendNow_62 : decode cX5_mendNow 62 = .ok (.isub, 1) := by decide +kernel
theorem dX5_mendNow_63 : decode cX5_mendNow 63 = .ok (.iastore, 1) := by decide +kernel
theorem dX5_mendNow_64 : decode cX5_mendNow 64 = .ok (.iload 4, 2) := by decide +kernel
theorem dX5_mendNow_66 : decode cX5_mendNow 66 = .ok (.iload_n 2, 1) := by decide +kernel
theorem dX5_mendNow_67 : decode cX5_mendNow 67 = .ok (.if_icmp .le 7, 3) := by decide +kernel
theorem dX5_mendNow_70 : decode cX5_mendNow 70 = .ok (.iload_n 3, 1) := by decide +kernel
theorem dX5_mendNow_71 : decode cX5_mendNow 71 = .ok (.goto 4, 3) := by decide +kernel
theorem dX5_mendNow_74 : decode cX5_mendNow 74 = .ok (.iload_n 1, 1) := by decide +kernel
theorem dX5_mendNow_75 : decode cX5_mendNow 75 = .ok (.istore_n 1, 1) := by decide +kernel
theorem dX5_mendNow_76 : decode cX5_mendNow 76 = .ok (.iload 4, 2) := by decide +kernel
theorem dX5_mendNow_78 : decode cX5_mendNow 78 = .ok (.iload_n 2, 1) := by decide +kernel
theorem dX5_mendNow_79 : decode cX5_mendNow 79 = .ok (.if_icmp .le 8, 3) := by decide +kernel
theorem dX5_mendNow_82 : decode cX5_mendNow 82 = .ok (.iload 4, 2) := by decide +kernel
theorem dX5_mendNow_84 : decode cX5_mendNow 84 = .ok (.goto 4, 3) := by decide +kernel
theorem dX5_mendNow_87 : decode cX5_mendNow 87 = .ok (.iload_n 2, 1) := by decide +kernel
theorem dX5_mendNow_88 : decode cX5_mendNow 88 = .ok (.istore_n 2, 1) := by decide +kernel
theorem dX5_mendNow_89 : decode cX5_mendNow 89 = .ok (.iinc 3 1, 3) := by decide +kernel
theorem dX5_mendNow_92 : decode cX5_mendNow 92 = .ok (.goto (-83), 3) := by decide +kernel
theorem dX5_mendNow_95 : decode cX5_mendNow 95 = .ok (.iload_n 1, 1) := by decide +kernel
theorem dX5_mendNow_96 : decode cX5_mendNow 96 = .ok (.ireturn, 1) := by decide +kernel
theorem dX5_mend_0 : decode cX5_mend 0 = .ok (.aload_n 0, 1) := by decide +kernel
theorem dX5_mend_1 : decode cX5_mend 1 = .ok (.getfield 131, 3) := by decide +kernel
theorem dX5_mend_4 : decode cX5_mend 4 = .ok (.ifCond .ne 8, 3) := by decide +kernel
theorem dX5_mend_7 : decode cX5_mend 7 = .ok (.bipush (-103), 2) := by decide +kernel
theorem dX5_mend_9 : decode cX5_mend 9 = .ok (.goto 7, 3) := by decide +kernel
theorem dX5_mend_12 : decode cX5_mend 12 = .ok (.aload_n 0, 1) := by decide +kernel
theorem dX5_mend_13 : decode cX5_mend 13 = .ok (.invokevirtual 262, 3) := by decide +kernel
theorem dX5_mend_16 : decode cX5_mend 16 = .ok (.ireturn, 1) := by decide +kernel
theorem dX5_anyLifts_0 : decode cX5_anyLifts 0 = .ok (.iconst 0, 1) := by decide +kernel
theorem dX5_anyLifts_1 : decode cX5_anyLifts 1 = .ok (.istore_n 3, 1) := by decide +kernel
theorem dX5_anyLifts_2 : decode cX5_anyLifts 2 = .ok (.iconst 0, 1) := by decide +kernel
theorem dX5_anyLifts_3 : decode cX5_anyLifts 3 = .ok (.istore 4, 2) := by decide +kernel
theorem dX5_anyLifts_5 : decode cX5_anyLifts 5 = .ok (.iload 4, 2) := by decide +kernel
theorem dX5_anyLifts_7 : decode cX5_anyLifts 7 = .ok (.aload_n 0, 1) := by decide +kernel
theorem dX5_anyLifts_8 : decode cX5_anyLifts 8 = .ok (.getfield 131, 3) := by decide +kernel
theorem dX5_anyLifts_11 : decode cX5_anyLifts 11 = .ok (.if_icmp .ge 30, 3) := by decide +kernel
theorem dX5_anyLifts_14 : decode cX5_anyLifts 14 = .ok (.iload_n 3, 1) := by decide +kernel
theorem dX5_anyLifts_15 : decode cX5_anyLifts 15 = .ok (.ifCond .ne 14, 3) := by decide +kernel
theorem dX5_anyLifts_18 : decode cX5_anyLifts 18 = .ok (.aload_n 0, 1) := by decide +kernel
theorem dX5_anyLifts_19 : decode cX5_anyLifts 19 = .ok (.iload 4, 2) := by decide +kernel
theorem dX5_anyLifts_21 : decode cX5_anyLifts 21 = .ok (.iload_n 1, 1) := by decide +kernel
theorem dX5_anyLifts_22 : decode cX5_anyLifts 22 = .ok (.iload_n 2, 1) := by decide +kernel
theorem dX5_anyLifts_23 : decode cX5_anyLifts 23 = .ok (.invokevirtual 204, 3) := by decide +kernel
theorem dX5_anyLifts_26 : decode cX5_anyLifts 26 = .ok (.ifCond .eq 7, 3) := by decide +kernel
theorem dX5_anyLifts_29 : decode cX5_anyLifts 29 = .ok (.iconst 1, 1) := by decide +kernel
theorem dX5_anyLifts_30 : decode cX5_anyLifts 30 = .ok (.goto 4, 3) := by decide +kernel
theorem dX5_anyLifts_33 : decode cX5_anyLifts 33 = .ok (.iconst 0, 1) := by decide +kernel
theorem dX5_anyLifts_34 : decode cX5_anyLifts 34 = .ok (.istore_n 3, 1) := by decide +kernel
theorem dX5_anyLifts_35 : decode cX5_anyLifts 35 = .ok (.iinc 4 1, 3) := by decide +kernel
theorem dX5_anyLifts_38 : decode cX5_anyLifts 38 = .ok (.goto (-33), 3) := by decide +kernel
theorem dX5_anyLifts_41 : decode cX5_anyLifts 41 = .ok (.iload_n 3, 1) := by decide +kernel
theorem dX5_anyLifts_42 : decode cX5_anyLifts 42 = .ok (.ireturn, 1) := by decide +kernel
theorem dX5_oddsNow_0 : decode cX5_oddsNow 0 = .ok (.iconst 0, 1) := by decide +kernel
theorem dX5_oddsNow_1 : decode cX5_oddsNow 1 = .ok (.istore_n 3, 1) := by decide +kernel
theorem dX5_oddsNow_2 : decode cX5_oddsNow 2 = .ok (.iconst 0, 1) := by decide +kernel
theorem dX5_oddsNow_3 : decode cX5_oddsNow 3 = .ok (.istore 4, 2) := by decide +kernel
theorem dX5_oddsNow_5 : decode cX5_oddsNow 5 = .ok (.iload 4, 2) := by decide +kernel
theorem dX5_oddsNow_7 : decode cX5_oddsNow 7 = .ok (.bipush 10, 2) := by decide +kernel
theorem dX5_oddsNow_9 : decode cX5_oddsNow 9 = .ok (.if_icmp .ge 45, 3) := by decide +kernel
theorem dX5_oddsNow_12 : decode cX5_oddsNow 12 = .ok (.iload_n 3, 1) := by decide +kernel
theorem dX5_oddsNow_13 : decode cX5_oddsNow 13 = .ok (.aload_n 0, 1) := by decide +kernel
theorem dX5_oddsNow_14 : decode cX5_oddsNow 14 = .ok (.iconst 0, 1) := by decide +kernel
theorem dX5_oddsNow_15 : decode cX5_oddsNow 15 = .ok (.iload 4, 2) := by decide +kernel
theorem dX5_oddsNow_17 : decode cX5_oddsNow 17 = .ok (.invokevirtual 265, 3) := by decide +kernel
theorem dX5_oddsNow_20 : decode cX5_oddsNow 20 = .ok (.ifCond .eq 7, 3) := by decide +kernel
theorem dX5_oddsNow_23 : decode cX5_oddsNow 23 = .ok (.iconst 0, 1) := by decide +kernel
theorem dX5_oddsNow_24 : decode cX5_oddsNow 24 = .ok (.goto 4, 3) := by decide +kernel
theorem dX5_oddsNow_27 : decode cX5_oddsNow 27 = .ok (.iconst 1, 1) := by decide +kernel
theorem dX5_oddsNow_28 : decode cX5_oddsNow 28 = .ok (.iadd, 1) := by decide +kernel
theorem dX5_oddsNow_29 : decode cX5_oddsNow 29 = .ok (.istore_n 3, 1) := by decide +kernel
theorem dX5_oddsNow_30 : decode cX5_oddsNow 30 = .ok (.iload_n 3, 1) := by decide +kernel
theorem dX5_oddsNow_31 : decode cX5_oddsNow 31 = .ok (.aload_n 0, 1) := by decide +kernel
theorem dX5_oddsNow_32 : decode cX5_oddsNow 32 = .ok (.iconst 1, 1) := by decide +kernel
theorem dX5_oddsNow_33 : decode cX5_oddsNow 33 = .ok (.iload 4, 2) := by decide +kernel
theorem dX5_oddsNow_35 : decode cX5_oddsNow 35 = .ok (.invokevirtual 265, 3) := by decide +kernel
theorem dX5_oddsNow_38 : decode cX5_oddsNow 38 = .ok (.ifCond .eq 7, 3) := by decide +kernel
theorem dX5_oddsNow_41 : decode cX5_oddsNow 41 = .ok (.iconst 0, 1) := by decide +kernel
theorem dX5_oddsNow_42 : decode cX5_oddsNow 42 = .ok (.goto 4, 3) := by decide +kernel
theorem dX5_oddsNow_45 : decode cX5_oddsNow 45 = .ok (.iconst 1, 1) := by decide +kernel
theorem dX5_oddsNow_46 : decode cX5_oddsNow 46 = .ok (.iadd, 1) := by decide +kernel
theorem dX5_oddsNow_47 : decode cX5_oddsNow 47 = .ok (.istore_n 3, 1) := by decide +kernel
theorem dX5_oddsNow_48 : decode cX5_oddsNow 48 = .ok (.iinc 4 1, 3) := by decide +kernel
theorem dX5_oddsNow_51 : decode cX5_oddsNow 51 = .ok (.goto (-46), 3) := by decide +kernel
theorem dX5_oddsNow_54 : decode cX5_oddsNow 54 = .ok (.iconst 1, 1) := by decide +kernel
theorem dX5_oddsNow_55 : decode cX5_oddsNow 55 = .ok (.istore 4, 2) := by decide +kernel
theorem dX5_oddsNow_57 : decode cX5_oddsNow 57 = .ok (.iconst 1, 1) := by decide +kernel
theorem dX5_oddsNow_58 : decode cX5_oddsNow 58 = .ok (.istore 5, 2) := by decide +kernel
theorem dX5_oddsNow_60 : decode cX5_oddsNow 60 = .ok (.iconst 0, 1) := by decide +kernel
theorem dX5_oddsNow_61 : decode cX5_oddsNow 61 = .ok (.istore 6, 2) := by decide +kernel
theorem dX5_oddsNow_63 : decode cX5_oddsNow 63 = .ok (.iload 6, 2) := by decide +kernel
theorem dX5_oddsNow_65 : decode cX5_oddsNow 65 = .ok (.iload_n 1, 1) := by decide +kernel
theorem dX5_oddsNow_66 : decode cX5_oddsNow 66 = .ok (.if_icmp .ge 22, 3) := by decide +kernel
theorem dX5_oddsNow_69 : decode cX5_oddsNow 69 = .ok (.iload 4, 2) := by decide +kernel
theorem dX5_oddsNow_71 : decode cX5_oddsNow 71 = .ok (.iload_n 3, 1) := by decide +kernel
theorem dX5_oddsNow_72 : decode cX5_oddsNow 72 = .ok (.imul, 1) := by decide +kernel
theorem dX5_oddsNow_73 : decode cX5_oddsNow 73 = .ok (.istore 4, 2) := by decide +kernel
theorem dX5_oddsNow_75 : decode cX5_oddsNow 75 = .ok (.iload 5, 2) := by decide +kernel
theorem dX5_oddsNow_77 : decode cX5_oddsNow 77 = .ok (.bipush 20, 2) := by decide +kernel
theorem dX5_oddsNow_79 : decode cX5_oddsNow 79 = .ok (.imul, 1) := by decide +kernel
theorem dX5_oddsNow_80 : decode cX5_oddsNow 80 = .ok (.istore 5, 2) := by decide +kernel
theorem dX5_oddsNow_82 : decode cX5_oddsNow 82 = .ok (.iinc 6 1, 3) := by decide +kernel
theorem dX5_oddsNow_85 : decode cX5_oddsNow 85 = .ok (.goto (-22), 3) := by decide +kernel
theorem dX5_oddsNow_88 : decode cX5_oddsNow 88 = .ok (.iload 4, 2) := by decide +kernel
theorem dX5_oddsNow_90 : decode cX5_oddsNow 90 = .ok (.iload 5, 2) := by decide +kernel
theorem dX5_oddsNow_92 : decode cX5_oddsNow 92 = .ok (.invokestatic 268, 3) := by decide +kernel
theorem dX5_oddsNow_95 : decode cX5_oddsNow 95 = .ok (.istore 6, 2) := by decide +kernel
theorem dX5_oddsNow_97 : decode cX5_oddsNow 97 = .ok (.iload_n 2, 1) := by decide +kernel
theorem dX5_oddsNow_98 : decode cX5_oddsNow 98 = .ok (.ifCond .ne 11, 3) := by decide +kernel
theorem dX5_oddsNow_101 : decode cX5_oddsNow 101 = .ok (.iload 4, 2) := by decide +kernel
theorem dX5_oddsNow_103 : decode cX5_oddsNow 103 = .ok (.iload 6, 2) := by decide +kernel
theorem dX5_oddsNow_105 : decode cX5_oddsNow 105 = .ok (.idiv, 1) := by decide +kernel
theorem dX5_oddsNow_106 : decode cX5_oddsNow 106 = .ok (.goto 8, 3) := by decide +kernel
theorem dX5_oddsNow_109 : decode cX5_oddsNow 109 = .ok (.iload 5, 2) := by decide +kernel
theorem dX5_oddsNow_111 : decode cX5_oddsNow 111 = .ok (.iload 6, 2) := by decide +kernel
theorem dX5_oddsNow_113 : decode cX5_oddsNow 113 = .ok (.idiv, 1) := by decide +kernel
theorem dX5_oddsNow_114 : decode cX5_oddsNow 114 = .ok (.ireturn, 1) := by decide +kernel
theorem dX5_odds_0 : decode cX5_odds 0 = .ok (.iload_n 1, 1) := by decide +kernel
theorem dX5_odds_1 : decode cX5_odds 1 = .ok (.iconst 1, 1) := by decide +kernel
theorem dX5_odds_2 : decode cX5_odds 2 = .ok (.iconst 4, 1) := by decide +kernel
theorem dX5_odds_3 : decode cX5_odds 3 = .ok (.invokestatic 96, 3) := by decide +kernel
theorem dX5_odds_6 : decode cX5_odds 6 = .ok (.ifCond .eq 12, 3) := by decide +kernel
theorem dX5_odds_9 : decode cX5_odds 9 = .ok (.iload_n 2, 1) := by decide +kernel
theorem dX5_odds_10 : decode cX5_odds 10 = .ok (.iconst 0, 1) := by decide +kernel
theorem dX5_odds_11 : decode cX5_odds 11 = .ok (.iconst 1, 1) := by decide +kernel
theorem dX5_odds_12 : decode cX5_odds 12 = .ok (.invokestatic 96, 3) := by decide +kernel
theorem dX5_odds_15 : decode cX5_odds 15 = .ok (.ifCond .ne 6, 3) := by decide +kernel
theorem dX5_odds_18 : decode cX5_odds 18 = .ok (.bipush (-102), 2) := by decide +kernel
theorem dX5_odds_20 : decode cX5_odds 20 = .ok (.ireturn, 1) := by decide +kernel
theorem dX5_odds_21 : decode cX5_odds 21 = .ok (.aload_n 0, 1) := by decide +kernel
theorem dX5_odds_22 : decode cX5_odds 22 = .ok (.getfield 131, 3) := by decide +kernel
theorem dX5_odds_25 : decode cX5_odds 25 = .ok (.ifCond .ne 8, 3) := by decide +kernel
theorem dX5_odds_28 : decode cX5_odds 28 = .ok (.bipush (-103), 2) := by decide +kernel
theorem dX5_odds_30 : decode cX5_odds 30 = .ok (.goto 9, 3) := by decide +kernel
theorem dX5_odds_33 : decode cX5_odds 33 = .ok (.aload_n 0, 1) := by decide +kernel
theorem dX5_odds_34 : decode cX5_odds 34 = .ok (.iload_n 1, 1) := by decide +kernel
theorem dX5_odds_35 : decode cX5_odds 35 = .ok (.iload_n 2, 1) := by decide +kernel
theorem dX5_odds_36 : decode cX5_odds 36 = .ok (.invokevirtual 271, 3) := by decide +kernel
theorem dX5_odds_39 : decode cX5_odds 39 = .ok (.ireturn, 1) := by decide +kernel
theorem dX5_see_0 : decode cX5_see 0 = .ok (.aload_n 0, 1) := by decide +kernel
theorem dX5_see_1 : decode cX5_see 1 = .ok (.iload_n 1, 1) := by decide +kernel
theorem dX5_see_2 : decode cX5_see 2 = .ok (.invokevirtual 182, 3) := by decide +kernel
theorem dX5_see_5 : decode cX5_see 5 = .ok (.ifCond .ne 6, 3) := by decide +kernel
theorem dX5_see_8 : decode cX5_see 8 = .ok (.bipush (-101), 2) := by decide +kernel
theorem dX5_see_10 : decode cX5_see 10 = .ok (.ireturn, 1) := by decide +kernel
theorem dX5_see_11 : decode cX5_see 11 = .ok (.iload_n 2, 1) := by decide +kernel
theorem dX5_see_12 : decode cX5_see 12 = .ok (.iload_n 3, 1) := by decide +kernel
theorem dX5_see_13 : decode cX5_see 13 = .ok (.invokestatic 201, 3) := by decide +kernel
theorem dX5_see_16 : decode cX5_see 16 = .ok (.ifCond .ne 6, 3) := by decide +kernel
theorem dX5_see_19 : decode cX5_see 19 = .ok (.bipush (-102), 2) := by decide +kernel
theorem dX5_see_21 : decode cX5_see 21 = .ok (.ireturn, 1) := by decide +kernel
theorem dX5_see_22 : decode cX5_see 22 = .ok (.aload_n 0, 1) := by decide +kernel
theorem dX5_see_23 : decode cX5_see 23 = .ok (.getfield 149, 3) := by decide +kernel
theorem dX5_see_26 : decode cX5_see 26 = .ok (.bipush 8, 2) := by decide +kernel
theorem dX5_see_28 : decode cX5_see 28 = .ok (.if_icmp .ne 6, 3) := by decide +kernel
theorem dX5_see_31 : decode cX5_see 31 = .ok (.bipush (-104), 2) := by decide +kernel
theorem dX5_see_33 : decode cX5_see 33 = .ok (.ireturn, 1) := by decide +kernel
theorem dX5_see_34 : decode cX5_see 34 = .ok (.aload_n 0, 1) := by decide +kernel
theorem dX5_see_35 : decode cX5_see 35 = .ok (.getfield 28, 3) := by decide +kernel
theorem dX5_see_38 : decode cX5_see 38 = .ok (.aload_n 0, 1) := by decide +kernel
theorem dX5_see_39 : decode cX5_see 39 = .ok (.getfield 149, 3) := by decide +kernel
theorem dX5_see_42 : decode cX5_see 42 = .ok (.iload_n 1, 1) := by decide +kernel
theorem dX5_see_43 : decode cX5_see 43 = .ok (.iastore, 1) := by decide +kernel
theorem dX5_see_44 : decode cX5_see 44 = .ok (.aload_n 0, 1) := by decide +kernel
theorem dX5_see_45 : decode cX5_see 45 = .ok (.getfield 31, 3) := by decide +kernel
theorem dX5_see_48 : decode cX5_see 48 = .ok (.aload_n 0, 1) := by decide +kernel
theorem dX5_see_49 : decode cX5_see 49 = .ok (.getfield 149, 3) := by decide +kernel
theorem dX5_see_52 : decode cX5_see 52 = .ok (.iload_n 2, 1) := by decide +kernel
theorem dX5_see_53 : decode cX5_see 53 = .ok (.iastore, 1) := by decide +kernel
theorem dX5_see_54 : decode cX5_see 54 = .ok (.aload_n 0, 1) := by decide +kernel
theorem dX5_see_55 : decode cX5_see 55 = .ok (.getfield 34, 3) := by decide +kernel
theorem dX5_see_58 : decode cX5_see 58 = .ok (.aload_n 0, 1) := by decide +kernel
theorem dX5_see_59 : decode cX5_see 59 = .ok (.getfield 149, 3) := by decide +kernel
theorem dX5_see_62 : decode cX5_see 62 = .ok (.iload_n 3, 1) := by decide +kernel
theorem dX5_see_63 : decode cX5_see 63 = .ok (.iastore, 1) := by decide +kernel
theorem dX5_see_64 : decode cX5_see 64 = .ok (.aload_n 0, 1) := by decide +kernel
theorem dX5_see_65 : decode cX5_see 65 = .ok (.getfield 37, 3) := by decide +kernel
theorem dX5_see_68 : decode cX5_see 68 = .ok (.aload_n 0, 1) := by decide +kernel
theorem dX5_see_69 : decode cX5_see 69 = .ok (.getfield 149, 3) := by decide +kernel
theorem dX5_see_72 : decode cX5_see 72 = .ok (.iload 4, 2) := by decide +kernel
theorem dX5_see_74 : decode cX5_see 74 = .ok (.ifCond .eq 7, 3) := by decide +kernel
theorem dX5_see_77 : decode cX5_see 77 = .ok (.iconst 1, 1) := by decide +kernel
theorem dX5_see_78 : decode cX5_see 78 = .ok (.goto 4, 3) := by decide +kernel
theorem dX5_see_81 : decode cX5_see 81 = .ok (.iconst 0, 1) := by decide +kernel
theorem dX5_see_82 : decode cX5_see 82 = .ok (.iastore, 1) := by decide +kernel
theorem dX5_see_83 : decode cX5_see 83 = .ok (.aload_n 0, 1) := by decide +kernel
theorem dX5_see_84 : decode cX5_see 84 = .ok (.dup, 1) := by decide +kernel
theorem dX5_see_85 : decode cX5_see 85 = .ok (.getfield 149, 3) := by decide +kernel
theorem dX5_see_88 : decode cX5_see 88 = .ok (.iconst 1, 1) := by decide +kernel
theorem dX5_see_89 : decode cX5_see 89 = .ok (.iadd, 1) := by decide +kernel
theorem dX5_see_90 : decode cX5_see 90 = .ok (.putfield 149, 3) := by decide +kernel
theorem dX5_see_93 : decode cX5_see 93 = .ok (.aload_n 0, 1) := by decide +kernel
theorem dX5_see_94 : decode cX5_see 94 = .ok (.getfield 149, 3) := by decide +kernel
theorem dX5_see_97 : decode cX5_see 97 = .ok (.ireturn, 1) := by decide +kernel
theorem dX5_forget_0 : decode cX5_forget 0 = .ok (.aload_n 0, 1) := by decide +kernel
theorem dX5_forget_1 : decode cX5_forget 1 = .ok (.getfield 149, 3) := by decide +kernel
theorem dX5_forget_4 : decode cX5_forget 4 = .ok (.istore_n 1, 1) := by decide +kernel
theorem dX5_forget_5 : decode cX5_forget 5 = .ok (.aload_n 0, 1) := by decide +kernel
theorem dX5_forget_6 : decode cX5_forget 6 = .ok (.iconst 0, 1) := by decide +kernel
theorem dX5_forget_7 : decode cX5_forget 7 = .ok (.putfield 149, 3) := by decide +kernel
theorem dX5_forget_10 : decode cX5_forget 10 = .ok (.iload_n 1, 1) := by decide +kernel
theorem dX5_forget_11 : decode cX5_forget 11 = .ok (.ireturn, 1) := by decide +kernel
theorem dX5_liftsWith_0 : decode cX5_liftsWith 0 = .ok (.aload_n 0, 1) := by decide +kernel
theorem dX5_liftsWith_1 : decode cX5_liftsWith 1 = .ok (.getfield 16, 3) := by decide +kernel
theorem dX5_liftsWith_4 : decode cX5_liftsWith 4 = .ok (.iload_n 1, 1) := by decide +kernel
theorem dX5_liftsWith_5 : decode cX5_liftsWith 5 = .ok (.iaload, 1) := by decide +kernel
theorem dX5_liftsWith_6 : decode cX5_liftsWith 6 = .ok (.istore 5, 2) := by decide +kernel
theorem dX5_liftsWith_8 : decode cX5_liftsWith 8 = .ok (.aload_n 0, 1) := by decide +kernel
theorem dX5_liftsWith_9 : decode cX5_liftsWith 9 = .ok (.getfield 16, 3) := by decide +kernel
theorem dX5_liftsWith_12 : decode cX5_liftsWith 12 = .ok (.iload_n 1, 1) := by decide +kernel
theorem dX5_liftsWith_13 : decode cX5_liftsWith 13 = .ok (.iload_n 2, 1) := by decide +kernel
theorem dX5_liftsWith_14 : decode cX5_liftsWith 14 = .ok (.iastore, 1) := by decide +kernel
theorem dX5_liftsWith_15 : decode cX5_liftsWith 15 = .ok (.aload_n 0, 1) := by decide +kernel
theorem dX5_liftsWith_16 : decode cX5_liftsWith 16 = .ok (.aload_n 0, 1) := by decide +kernel
theorem dX5_liftsWith_17 : decode cX5_liftsWith 17 = .ok (.getfield 19, 3) := by decide +kernel
theorem dX5_liftsWith_20 : decode cX5_liftsWith 20 = .ok (.iload_n 1, 1) := by decide +kernel
theorem dX5_liftsWith_21 : decode cX5_liftsWith 21 = .ok (.iaload, 1) := by decide +kernel
theorem dX5_liftsWith_22 : decode cX5_liftsWith 22 = .ok (.iload_n 3, 1) := by decide +kernel
theorem dX5_liftsWith_23 : decode cX5_liftsWith 23 = .ok (.iload 4, 2) := by decide +kernel
theorem dX5_liftsWith_25 : decode cX5_liftsWith 25 = .ok (.invokevirtual 204, 3) := by decide +kernel
theorem dX5_liftsWith_28 : decode cX5_liftsWith 28 = .ok (.istore 6, 2) := by decide +kernel
theorem dX5_liftsWith_30 : decode cX5_liftsWith 30 = .ok (.aload_n 0, 1) := by decide +kernel
theorem dX5_liftsWith_31 : decode cX5_liftsWith 31 = .ok (.getfield 16, 3) := by decide +kernel
theorem dX5_liftsWith_34 : decode cX5_liftsWith 34 = .ok (.iload_n 1, 1) := by decide +kernel
theorem dX5_liftsWith_35 : decode cX5_liftsWith 35 = .ok (.iload 5, 2) := by decide +kernel
theorem dX5_liftsWith_37 : decode cX5_liftsWith 37 = .ok (.iastore, 1) := by decide +kernel
theorem dX5_liftsWith_38 : decode cX5_liftsWith 38 = .ok (.iload 6, 2) := by decide +kernel
theorem dX5_liftsWith_40 : decode cX5_liftsWith 40 = .ok (.ireturn, 1) := by decide +kernel
theorem dX5_canHave_0 : decode cX5_canHave 0 = .ok (.iconst 0, 1) := by decide +kernel
theorem dX5_canHave_1 : decode cX5_canHave 1 = .ok (.istore_n 2, 1) := by decide +kernel
theorem dX5_canHave_2 : decode cX5_canHave 2 = .ok (.iconst 1, 1) := by decide +kernel
theorem dX5_canHave_3 : decode cX5_canHave 3 = .ok (.istore_n 3, 1) := by decide +kernel
theorem dX5_canHave_4 : decode cX5_canHave 4 = .ok (.iload_n 3, 1) := by decide +kernel
theorem dX5_canHave_5 : decode cX5_canHave 5 = .ok (.bipush 9, 2) := by decide +kernel
theorem dX5_canHave_7 : decode cX5_canHave 7 = .ok (.if_icmp .gt 119, 3) := by decide +kernel
theorem dX5_canHave_10 : decode cX5_canHave 10 = .ok (.iconst 1, 1) := by decide +kernel
theorem dX5_canHave_11 : decode cX5_canHave 11 = .ok (.istore 4, 2) := by decide +kernel
theorem dX5_canHave_13 : decode cX5_canHave 13 = .ok (.iconst 0, 1) := by decide +kernel
theorem dX5_canHave_14 : decode cX5_canHave 14 = .ok (.istore 5, 2) := by decide +kernel
theorem dX5_canHave_16 : decode cX5_canHave 16 = .ok (.iload 5, 2) := by decide +kernel
theorem dX5_canHave_18 : decode cX5_canHave 18 = .ok (.aload_n 0, 1) := by decide +kernel
theorem dX5_canHave_19 : decode cX5_canHave 19 = .ok (.getfield 149, 3) := by decide +kernel
theorem dX5_canHave_22 : decode cX5_canHave 22 = .ok (.if_icmp .ge 81, 3) := by decide +kernel
theorem dX5_canHave_25 : decode cX5_canHave 25 = .ok (.aload_n 0, 1) := by decide +kernel
theorem dX5_canHave_26 : decode cX5_canHave 26 = .ok (.getfield 19, 3) := by decide +kernel
theorem dX5_canHave_29 : decode cX5_canHave 29 = .ok (.iload_n 1, 1) := by decide +kernel
theorem dX5_canHave_30 : decode cX5_canHave 30 = .ok (.iaload, 1) := by decide +kernel
theorem dX5_canHave_31 : decode cX5_canHave 31 = .ok (.iconst (-1), 1) := by decide +kernel
theorem dX5_canHave_32 : decode cX5_canHave 32 = .ok (.if_icmp .eq 71, 3) := by decide +kernel
theorem dX5_canHave_35 : decode cX5_canHave 35 = .ok (.iload 4, 2) := by decide +kernel
theorem dX5_canHave_37 : decode cX5_canHave 37 = .ok (.ifCond .eq 57, 3) := by decide +kernel
theorem dX5_canHave_40 : decode cX5_canHave 40 = .ok (.aload_n 0, 1) := by decide +kernel
theorem dX5_canHave_41 : decode cX5_canHave 41 = .ok (.getfield 28, 3) := by decide +kernel
theorem dX5_canHave_44 : decode cX5_canHave 44 = .ok (.iload 5, 2) := by decide +kernel
theorem dX5_canHave_46 : decode cX5_canHave 46 = .ok (.iaload, 1) := by decide +kernel
theorem dX5_canHave_47 : decode cX5_canHave 47 = .ok (.iload_n 1, 1) := by decide +kernel
theorem dX5_canHave_48 : decode cX5_canHave 48 = .ok (.if_icmp .ne 42, 3) := by decide +kernel
theorem dX5_canHave_51 : decode cX5_canHave 51 = .ok (.aload_n 0, 1) := by decide +kernel
theorem dX5_canHave_52 : decode cX5_canHave 52 = .ok (.iload_n 1, 1) := by decide +kernel
theorem dX5_canHave_53 : decode cX5_canHave 53 = .ok (.iload_n 3, 1) := by decide +kernel
theorem dX5_canHave_54 : decode cX5_canHave 54 = .ok (.aload_n 0, 1) := by decide +kernel
theorem dX5_canHave_55 : decode cX5_canHave 55 = .ok (.getfield 31, 3) := by decide +kernel
theorem dX5_canHave_58 : decode cX5_canHave 58 = .ok (.iload 5, 2) := by decide +kernel
theorem dX5_canHave_60 : decode cX5_canHave 60 = .ok (.iaload, 1) := by decide +kernel
theorem dX5_canHave_61 : decode cX5_canHave 61 = .ok (.aload_n 0, 1) := by decide +kernel
theorem dX5_canHave_62 : decode cX5_canHave 62 = .ok (.getfield 34, 3) := by decide +kernel
theorem dX5_canHave_65 : decode cX5_canHave 65 = .ok (.iload 5, 2) := by decide +kernel
theorem dX5_canHave_67 : decode cX5_canHave 67 = .ok (.iaload, 1) := by decide +kernel
theorem dX5_canHave_68 : decode cX5_canHave 68 = .ok (.invokevirtual 274, 3) := by decide +kernel
theorem dX5_canHave_71 : decode cX5_canHave 71 = .ok (.aload_n 0, 1) := by decide +kernel
theorem dX5_canHave_72 : decode cX5_canHave 72 = .ok (.getfield 37, 3) := by decide +kernel
theorem dX5_canHave_75 : decode cX5_canHave 75 = .ok (.iload 5, 2) := by decide +kernel
theorem dX5_canHave_77 : decode cX5_canHave 77 = .ok (.iaload, 1) := by decide +kernel
theorem dX5_canHave_78 : decode cX5_canHave 78 = .ok (.iconst 1, 1) := by decide +kernel
theorem dX5_canHave_79 : decode cX5_canHave 79 = .ok (.if_icmp .ne 7, 3) := by decide +kernel
theorem dX5_canHave_82 : decode cX5_canHave 82 = .ok (.iconst 1, 1) := by decide +kernel
theorem dX5_canHave_83 : decode cX5_canHave 83 = .ok (.goto 4, 3) := by decide +kernel
theorem dX5_canHave_86 : decode cX5_canHave 86 = .ok (.iconst 0, 1) := by decide +kernel
theorem dX5_canHave_87 : decode cX5_canHave 87 = .ok (.if_icmp .ne 7, 3) := by decide +kernel
theorem dX5_canHave_90 : decode cX5_canHave 90 = .ok (.iconst 1, 1) := by decide +kernel
theorem dX5_canHave_91 : decode cX5_canHave 91 = .ok (.goto 4, 3) := by decide +kernel
theorem dX5_canHave_94 : decode cX5_canHave 94 = .ok (.iconst 0, 1) := by decide +kernel
theorem dX5_canHave_95 : decode cX5_canHave 95 = .ok (.istore 4, 2) := by decide +kernel
theorem dX5_canHave_97 : decode cX5_canHave 97 = .ok (.iinc 5 1, 3) := by decide +kernel
theorem dX5_canHave_100 : decode cX5_canHave 100 = .ok (.goto (-84), 3) := by decide +kernel
theorem dX5_canHave_103 : decode cX5_canHave 103 = .ok (.iload_n 2, 1) := by decide +kernel
theorem dX5_canHave_104 : decode cX5_canHave 104 = .ok (.iload 4, 2) := by decide +kernel
theorem dX5_canHave_106 : decode cX5_canHave 106 = .ok (.ifCond .eq 11, 3) := by decide +kernel
theorem dX5_canHave_109 : decode cX5_canHave 109 = .ok (.iconst 1, 1) := by decide +kernel
theorem dX5_canHave_110 : decode cX5_canHave 110 = .ok (.iload_n 3, 1) := by decide +kernel
theorem dX5_canHave_111 : decode cX5_canHave 111 = .ok (.iconst 1, 1) := by decide +kernel
theorem dX5_canHave_112 : decode cX5_canHave 112 = .ok (.isub, 1) := by decide +kernel
theorem dX5_canHave_113 : decode cX5_canHave 113 = .ok (.ishl, 1) := by decide +kernel
theorem dX5_canHave_114 : decode cX5_canHave 114 = .ok (.goto 4, 3) := by decide +kernel
theorem dX5_canHave_117 : decode cX5_canHave 117 = .ok (.iconst 0, 1) := by decide +kernel
theorem dX5_canHave_118 : decode cX5_canHave 118 = .ok (.ior, 1) := by decide +kernel
theorem dX5_canHave_119 : decode cX5_canHave 119 = .ok (.istore_n 2, 1) := by decide +kernel
theorem dX5_canHave_120 : decode cX5_canHave 120 = .ok (.iinc 3 1, 3) := by decide +kernel
theorem dX5_canHave_123 : decode cX5_canHave 123 = .ok (.goto (-119), 3) := by decide +kernel
theorem dX5_canHave_126 : decode cX5_canHave 126 = .ok (.iload_n 2, 1) := by decide +kernel
theorem dX5_canHave_127 : decode cX5_canHave 127 = .ok (.ireturn, 1) := by decide +kernel
theorem dX5_worstBy_0 : decode cX5_worstBy 0 = .ok (.iconst 0, 1) := by decide +kernel
theorem dX5_worstBy_1 : decode cX5_worstBy 1 = .ok (.istore 5, 2) := by decide +kernel
theorem dX5_worstBy_3 : decode cX5_worstBy 3 = .ok (.iconst 1, 1) := by decide +kernel
theorem dX5_worstBy_4 : decode cX5_worstBy 4 = .ok (.istore 6, 2) := by decide +kernel
theorem dX5_worstBy_6 : decode cX5_worstBy 6 = .ok (.iload 6, 2) := by decide +kernel
theorem dX5_worstBy_8 : decode cX5_worstBy 8 = .ok (.bipush 9, 2) := by decide +kernel
theorem dX5_worstBy_10 : decode cX5_worstBy 10 = .ok (.if_icmp .gt 43, 3) := by decide +kernel
theorem dX5_worstBy_13 : decode cX5_worstBy 13 = .ok (.iload 5, 2) := by decide +kernel
theorem dX5_worstBy_15 : decode cX5_worstBy 15 = .ok (.iload_n 2, 1) := by decide +kernel
theorem dX5_worstBy_16 : decode cX5_worstBy 16 = .ok (.iload 6, 2) := by decide +kernel
theorem dX5_worstBy_18 : decode cX5_worstBy 18 = .ok (.iconst 1, 1) := by decide +kernel
theorem dX5_worstBy_19 : decode cX5_worstBy 19 = .ok (.isub, 1) := by decide +kernel
theorem dX5_worstBy_20 : decode cX5_worstBy 20 = .ok (.invokestatic 172, 3) := by decide +kernel
theorem dX5_worstBy_23 : decode cX5_worstBy 23 = .ok (.ifCond .eq 20, 3) := by decide +kernel
theorem dX5_worstBy_26 : decode cX5_worstBy 26 = .ok (.aload_n 0, 1) := by decide +kernel
theorem dX5_worstBy_27 : decode cX5_worstBy 27 = .ok (.iload_n 1, 1) := by decide +kernel
theorem dX5_worstBy_28 : decode cX5_worstBy 28 = .ok (.iload 6, 2) := by decide +kernel
theorem dX5_worstBy_30 : decode cX5_worstBy 30 = .ok (.iload_n 3, 1) := by decide +kernel
theorem dX5_worstBy_31 : decode cX5_worstBy 31 = .ok (.iload 4, 2) := by decide +kernel
theorem dX5_worstBy_33 : decode cX5_worstBy 33 = .ok (.invokevirtual 274, 3) := by decide +kernel
theorem dX5_worstBy_36 : decode cX5_worstBy 36 = .ok (.ifCond .eq 7, 3) := by decide +kernel
theorem dX5_worstBy_39 : decode cX5_worstBy 39 = .ok (.iconst 1, 1) := by decide +kernel
theorem dX5_worstBy_40 : decode cX5_worstBy 40 = .ok (.goto 4, 3) := by decide +kernel
theorem dX5_worstBy_43 : decode cX5_worstBy 43 = .ok (.iconst 0, 1) := by decide +kernel
theorem dX5_worstBy_44 : decode cX5_worstBy 44 = .ok (.iadd, 1) := by decide +kernel
theorem dX5_worstBy_45 : decode cX5_worstBy 45 = .ok (.istore 5, 2) := by decide +kernel
theorem dX5_worstBy_47 : decode cX5_worstBy 47 = .ok (.iinc 6 1, 3) := by decide +kernel
theorem dX5_worstBy_50 : decode cX5_worstBy 50 = .ok (.goto (-44), 3) := by decide +kernel
theorem dX5_worstBy_53 : decode cX5_worstBy 53 = .ok (.iload_n 2, 1) := by decide +kernel
theorem dX5_worstBy_54 : decode cX5_worstBy 54 = .ok (.invokestatic 218, 3) := by decide +kernel
theorem dX5_worstBy_57 : decode cX5_worstBy 57 = .ok (.iload 5, 2) := by decide +kernel
theorem dX5_worstBy_59 : decode cX5_worstBy 59 = .ok (.isub, 1) := by decide +kernel
theorem dX5_worstBy_60 : decode cX5_worstBy 60 = .ok (.istore 6, 2) := by decide +kernel
theorem dX5_worstBy_62 : decode cX5_worstBy 62 = .ok (.iload 5, 2) := by decide +kernel
theorem dX5_worstBy_64 : decode cX5_worstBy 64 = .ok (.iload 6, 2) := by decide +kernel
theorem dX5_worstBy_66 : decode cX5_worstBy 66 = .ok (.if_icmp .le 8, 3) := by decide +kernel
theorem dX5_worstBy_69 : decode cX5_worstBy 69 = .ok (.iload 5, 2) := by decide +kernel
theorem dX5_worstBy_71 : decode cX5_worstBy 71 = .ok (.goto 5, 3) := by decide +kernel
theorem dX5_worstBy_74 : decode cX5_worstBy 74 = .ok (.iload 6, 2) := by decide +kernel
theorem dX5_worstBy_76 : decode cX5_worstBy 76 = .ok (.ireturn, 1) := by decide +kernel
theorem dX5_waitFor_0 : decode cX5_waitFor 0 = .ok (.aload_n 0, 1) := by decide +kernel
theorem dX5_waitFor_1 : decode cX5_waitFor 1 = .ok (.iload_n 1, 1) := by decide +kernel
theorem dX5_waitFor_2 : decode cX5_waitFor 2 = .ok (.invokevirtual 176, 3) := by decide +kernel
theorem dX5_waitFor_5 : decode cX5_waitFor 5 = .ok (.istore_n 2, 1) := by decide +kernel
theorem dX5_waitFor_6 : decode cX5_waitFor 6 = .ok (.iconst (-1), 1) := by decide +kernel
theorem dX5_waitFor_7 : decode cX5_waitFor 7 = .ok (.istore_n 3, 1) := by decide +kernel
theorem dX5_waitFor_8 : decode cX5_waitFor 8 = .ok (.ldc 168, 2) := by decide +kernel
theorem dX5_waitFor_10 : decode cX5_waitFor 10 = .ok (.istore 4, 2) := by decide +kernel
theorem dX5_waitFor_12 : decode cX5_waitFor 12 = .ok (.iconst 0, 1) := by decide +kernel
theorem dX5_waitFor_13 : decode cX5_waitFor 13 = .ok (.istore 5, 2) := by decide +kernel
theorem dX5_waitFor_15 : decode cX5_waitFor 15 = .ok (.iload 5, 2) := by decide +kernel
theorem dX5_waitFor_17 : decode cX5_waitFor 17 = .ok (.sipush 200, 3) := by decide +kernel
theorem dX5_waitFor_20 : decode cX5_waitFor 20 = .ok (.if_icmp .ge 71, 3) := by decide +kernel
theorem dX5_waitFor_23 : decode cX5_waitFor 23 = .ok (.iload_n 2, 1) := by decide +kernel
theorem dX5_waitFor_24 : decode cX5_waitFor 24 = .ok (.ifCond .eq 67, 3) := by decide +kernel
theorem dX5_waitFor_27 : decode cX5_waitFor 27 = .ok (.aload_n 0, 1) := by decide +kernel
theorem dX5_waitFor_28 : decode cX5_waitFor 28 = .ok (.getfield 19, 3) := by decide +kernel
theorem dX5_waitFor_31 : decode cX5_waitFor 31 = .ok (.iload_n 1, 1) := by decide +kernel
theorem dX5_waitFor_32 : decode cX5_waitFor 32 = .ok (.iaload, 1) := by decide +kernel
theorem dX5_waitFor_33 : decode cX5_waitFor 33 = .ok (.iconst (-1), 1) := by decide +kernel
theorem dX5_waitFor_34 : decode cX5_waitFor 34 = .ok (.if_icmp .eq 57, 3) := by decide +kernel
theorem dX5_waitFor_37 : decode cX5_waitFor 37 = .ok (.aload_n 0, 1) := by decide +kernel
theorem dX5_waitFor_38 : decode cX5_waitFor 38 = .ok (.iload_n 1, 1) := by decide +kernel
theorem dX5_waitFor_39 : decode cX5_waitFor 39 = .ok (.iload_n 2, 1) := by decide +kernel
theorem dX5_waitFor_40 : decode cX5_waitFor 40 = .ok (.iload 5, 2) := by decide +kernel
theorem dX5_waitFor_42 : decode cX5_waitFor 42 = .ok (.bipush 100, 2) := by decide +kernel
theorem dX5_waitFor_44 : decode cX5_waitFor 44 = .ok (.idiv, 1) := by decide +kernel
theorem dX5_waitFor_45 : decode cX5_waitFor 45 = .ok (.iload 5, 2) := by decide +kernel
theorem dX5_waitFor_47 : decode cX5_waitFor 47 = .ok (.bipush 100, 2) := by decide +kernel
theorem dX5_waitFor_49 : decode cX5_waitFor 49 = .ok (.irem, 1) := by decide +kernel
theorem dX5_waitFor_50 : decode cX5_waitFor 50 = .ok (.invokevirtual 278, 3) := by decide +kernel
theorem dX5_waitFor_53 : decode cX5_waitFor 53 = .ok (.istore 6, 2) := by decide +kernel
theorem dX5_waitFor_55 : decode cX5_waitFor 55 = .ok (.iload 6, 2) := by decide +kernel
theorem dX5_waitFor_57 : decode cX5_waitFor 57 = .ok (.iload 4, 2) := by decide +kernel
theorem dX5_waitFor_59 : decode cX5_waitFor 59 = .ok (.if_icmp .ge 8, 3) := by decide +kernel
theorem dX5_waitFor_62 : decode cX5_waitFor 62 = .ok (.iload 5, 2) := by decide +kernel
theorem dX5_waitFor_64 : decode cX5_waitFor 64 = .ok (.goto 4, 3) := by decide +kernel
theorem dX5_waitFor_67 : decode cX5_waitFor 67 = .ok (.iload_n 3, 1) := by decide +kernel
theorem dX5_waitFor_68 : decode cX5_waitFor 68 = .ok (.istore_n 3, 1) := by decide +kernel
theorem dX5_waitFor_69 : decode cX5_waitFor 69 = .ok (.iload 6, 2) := by decide +kernel
theorem dX5_waitFor_71 : decode cX5_waitFor 71 = .ok (.iload 4, 2) := by decide +kernel
theorem dX5_waitFor_73 : decode cX5_waitFor 73 = .ok (.if_icmp .ge 8, 3) := by decide +kernel
theorem dX5_waitFor_76 : decode cX5_waitFor 76 = .ok (.iload 6, 2) := by decide +kernel
theorem dX5_waitFor_78 : decode cX5_waitFor 78 = .ok (.goto 5, 3) := by decide +kernel
theorem dX5_waitFor_81 : decode cX5_waitFor 81 = .ok (.iload 4, 2) := by decide +kernel
theorem dX5_waitFor_83 : decode cX5_waitFor 83 = .ok (.istore 4, 2) := by decide +kernel
theorem dX5_waitFor_85 : decode cX5_waitFor 85 = .ok (.iinc 5 1, 3) := by decide +kernel
theorem dX5_waitFor_88 : decode cX5_waitFor 88 = .ok (.goto (-73), 3) := by decide +kernel
theorem dX5_waitFor_91 : decode cX5_waitFor 91 = .ok (.iload_n 3, 1) := by decide +kernel
theorem dX5_waitFor_92 : decode cX5_waitFor 92 = .ok (.ireturn, 1) := by decide +kernel
theorem dX5_draw_0 : decode cX5_draw 0 = .ok (.aload_n 0, 1) := by decide +kernel
theorem dX5_draw_1 : decode cX5_draw 1 = .ok (.ldc2_w 282, 3) := by decide +kernel
theorem dX5_draw_4 : decode cX5_draw 4 = .ok (.aload_n 0, 1) := by decide +kernel
theorem dX5_draw_5 : decode cX5_draw 5 = .ok (.getfield 284, 3) := by decide +kernel
theorem dX5_draw_8 : decode cX5_draw 8 = .ok (.lmul, 1) := by decide +kernel
theorem dX5_draw_9 : decode cX5_draw 9 = .ok (.ldc2_w 288, 3) := by decide +kernel
theorem dX5_draw_12 : decode cX5_draw 12 = .ok (.ladd, 1) := by decide +kernel
theorem dX5_draw_13 : decode cX5_draw 13 = .ok (.ldc2_w 290, 3) := by decide +kernel
theorem dX5_draw_16 : decode cX5_draw 16 = .ok (.land, 1) := by decide +kernel
theorem dX5_draw_17 : decode cX5_draw 17 = .ok (.putfield 284, 3) := by decide +kernel
theorem dX5_draw_20 : decode cX5_draw 20 = .ok (.aload_n 0, 1) := by decide +kernel
theorem dX5_draw_21 : decode cX5_draw 21 = .ok (.getfield 284, 3) := by decide +kernel
theorem dX5_draw_24 : decode cX5_draw 24 = .ok (.ldc2_w 292, 3) := by decide +kernel
theorem dX5_draw_27 : decode cX5_draw 27 = .ok (.ldiv, 1) := by decide +kernel
theorem dX5_draw_28 : decode cX5_draw 28 = .ok (.iload_n 1, 1) := by decide +kernel
theorem dX5_draw_29 : decode cX5_draw 29 = .ok (.i2l, 1) := by decide +kernel
theorem dX5_draw_30 : decode cX5_draw 30 = .ok (.lrem, 1) := by decide +kernel
theorem dX5_draw_31 : decode cX5_draw 31 = .ok (.l2i, 1) := by decide +kernel
theorem dX5_draw_32 : decode cX5_draw 32 = .ok (.ireturn, 1) := by decide +kernel
theorem dX5_onPlain_0 : decode cX5_onPlain 0 = .ok (.iconst 0, 1) := by decide +kernel
theorem dX5_onPlain_1 : decode cX5_onPlain 1 = .ok (.istore_n 1, 1) := by decide +kernel
theorem dX5_onPlain_2 : decode cX5_onPlain 2 = .ok (.iconst 0, 1) := by decide +kernel
theorem dX5_onPlain_3 : decode cX5_onPlain 3 = .ok (.istore_n 2, 1) := by decide +kernel
theorem dX5_onPlain_4 : decode cX5_onPlain 4 = .ok (.iload_n 2, 1) := by decide +kernel
theorem dX5_onPlain_5 : decode cX5_onPlain 5 = .ok (.aload_n 0, 1) := by decide +kernel
theorem dX5_onPlain_6 : decode cX5_onPlain 6 = .ok (.getfield 134, 3) := by decide +kernel
theorem dX5_onPlain_9 : decode cX5_onPlain 9 = .ok (.if_icmp .ge 27, 3) := by decide +kernel
theorem dX5_onPlain_12 : decode cX5_onPlain 12 = .ok (.iload_n 1, 1) := by decide +kernel
theorem dX5_onPlain_13 : decode cX5_onPlain 13 = .ok (.aload_n 0, 1) := by decide +kernel
theorem dX5_onPlain_14 : decode cX5_onPlain 14 = .ok (.getfield 19, 3) := by decide +kernel
theorem dX5_onPlain_17 : decode cX5_onPlain 17 = .ok (.iload_n 2, 1) := by decide +kernel
theorem dX5_onPlain_18 : decode cX5_onPlain 18 = .ok (.iaload, 1) := by decide +kernel
theorem dX5_onPlain_19 : decode cX5_onPlain 19 = .ok (.iconst (-1), 1) := by decide +kernel
theorem dX5_onPlain_20 : decode cX5_onPlain 20 = .ok (.if_icmp .ne 7, 3) := by decide +kernel
theorem dX5_onPlain_23 : decode cX5_onPlain 23 = .ok (.iconst 1, 1) := by decide +kernel
theorem dX5_onPlain_24 : decode cX5_onPlain 24 = .ok (.goto 4, 3) := by decide +kernel
theorem dX5_onPlain_27 : decode cX5_onPlain 27 = .ok (.iconst 0, 1) := by decide +kernel
theorem dX5_onPlain_28 : decode cX5_onPlain 28 = .ok (.iadd, 1) := by decide +kernel
theorem dX5_onPlain_29 : decode cX5_onPlain 29 = .ok (.istore_n 1, 1) := by decide +kernel
theorem dX5_onPlain_30 : decode cX5_onPlain 30 = .ok (.iinc 2 1, 3) := by decide +kernel
theorem dX5_onPlain_33 : decode cX5_onPlain 33 = .ok (.goto (-29), 3) := by decide +kernel
theorem dX5_onPlain_36 : decode cX5_onPlain 36 = .ok (.iload_n 1, 1) := by decide +kernel
theorem dX5_onPlain_37 : decode cX5_onPlain 37 = .ok (.ireturn, 1) := by decide +kernel
theorem dX5_decadesNow_0 : decode cX5_decadesNow 0 = .ok (.aload_n 0, 1) := by decide +kernel
theorem dX5_decadesNow_1 : decode cX5_decadesNow 1 = .ok (.getfield 140, 3) := by decide +kernel
theorem dX5_decadesNow_4 : decode cX5_decadesNow 4 = .ok (.istore 4, 2) := by decide +kernel
theorem dX5_decadesNow_6 : decode cX5_decadesNow 6 = .ok (.aload_n 0, 1) := by decide +kernel
theorem dX5_decadesNow_7 : decode cX5_decadesNow 7 = .ok (.getfield 143, 3) := by decide +kernel
theorem dX5_decadesNow_10 : decode cX5_decadesNow 10 = .ok (.istore 5, 2) := by decide +kernel
theorem dX5_decadesNow_12 : decode cX5_decadesNow 12 = .ok (.iconst 0, 1) := by decide +kernel
theorem dX5_decadesNow_13 : decode cX5_decadesNow 13 = .ok (.istore 6, 2) := by decide +kernel
theorem dX5_decadesNow_15 : decode cX5_decadesNow 15 = .ok (.iload 6, 2) := by decide +kernel
theorem dX5_decadesNow_17 : decode cX5_decadesNow 17 = .ok (.iconst 5, 1) := by decide +kernel
theorem dX5_decadesNow_18 : decode cX5_decadesNow 18 = .ok (.if_icmp .ge 65, 3) := by decide +kernel
theorem dX5_decadesNow_21 : decode cX5_decadesNow 21 = .ok (.aload_n 0, 1) := by decide +kernel
theorem dX5_decadesNow_22 : decode cX5_decadesNow 22 = .ok (.getfield 57, 3) := by decide +kernel
theorem dX5_decadesNow_25 : decode cX5_decadesNow 25 = .ok (.iload 6, 2) := by decide +kernel
theorem dX5_decadesNow_27 : decode cX5_decadesNow 27 = .ok (.aload_n 0, 1) := by decide +kernel
theorem dX5_decadesNow_28 : decode cX5_decadesNow 28 = .ok (.getfield 16, 3) := by decide +kernel
theorem dX5_decadesNow_31 : decode cX5_decadesNow 31 = .ok (.iload 6, 2) := by decide +kernel
theorem dX5_decadesNow_33 : decode cX5_decadesNow 33 = .ok (.iaload, 1) := by decide +kernel
theorem dX5_decadesNow_34 : decode cX5_decadesNow 34 = .ok (.iastore, 1) := by decide +kernel
theorem dX5_decadesNow_35 : decode cX5_decadesNow 35 = .ok (.aload_n 0, 1) := by decide +kernel
theorem dX5_decadesNow_36 : decode cX5_decadesNow 36 = .ok (.getfield 60, 3) := by decide +kernel
theorem dX5_decadesNow_39 : decode cX5_decadesNow 39 = .ok (.iload 6, 2) := by decide +kernel
theorem dX5_decadesNow_41 : decode cX5_decadesNow 41 = .ok (.aload_n 0, 1) := by decide +kernel
theorem dX5_decadesNow_42 : decode cX5_decadesNow 42 = .ok (.getfield 19, 3) := by decide +kernel
theorem dX5_decadesNow_45 : decode cX5_decadesNow 45 = .ok (.iload 6, 2) := by decide +kernel
theorem dX5_decadesNow_47 : decode cX5_decadesNow 47 = .ok (.iaload, 1) := by decide +kernel
theorem dX5_decadesNow_48 : decode cX5_decadesNow 48 = .ok (.iastore, 1) := by decide +kernel
theorem dX5_decadesNow_49 : decode cX5_decadesNow 49 = .ok (.aload_n 0, 1) := by decide +kernel
theorem dX5_decadesNow_50 : decode cX5_decadesNow 50 = .ok (.getfield 63, 3) := by decide +kernel
theorem dX5_decadesNow_53 : decode cX5_decadesNow 53 = .ok (.iload 6, 2) := by decide +kernel
theorem dX5_decadesNow_55 : decode cX5_decadesNow 55 = .ok (.aload_n 0, 1) := by decide +kernel
theorem dX5_decadesNow_56 : decode cX5_decadesNow 56 = .ok (.getfield 22, 3) := by decide +kernel
theorem dX5_decadesNow_59 : decode cX5_decadesNow 59 = .ok (.iload 6, 2) := by decide +kernel
theorem dX5_decadesNow_61 : decode cX5_decadesNow 61 = .ok (.iaload, 1) := by decide +kernel
theorem dX5_decadesNow_62 : decode cX5_decadesNow 62 = .ok (.iastore, 1) := by decide +kernel
theorem dX5_decadesNow_63 : decode cX5_decadesNow 63 = .ok (.aload_n 0, 1) := by decide +kernel
theorem dX5_decadesNow_64 : decode cX5_decadesNow 64 = .ok (.getfield 66, 3) := by decide +kernel
theorem dX5_decadesNow_67 : decode cX5_decadesNow 67 = .ok (.iload 6, 2) := by decide +kernel
theorem dX5_decadesNow_69 : decode cX5_decadesNow 69 = .ok (.aload_n 0, 1) := by decide +kernel
theorem dX5_decadesNow_70 : decode cX5_decadesNow 70 = .ok (.getfield 25, 3) := by decide +kernel
theorem dX5_decadesNow_73 : decode cX5_decadesNow 73 = .ok (.iload 6, 2) := by decide +kernel
theorem dX5_decadesNow_75 : decode cX5_decadesNow 75 = .ok (.iaload, 1) := by decide +kernel
theorem dX5_decadesNow_76 : decode cX5_decadesNow 76 = .ok (.iastore, 1) := by decide +kernel
theorem dX5_decadesNow_77 : decode cX5_decadesNow 77 = .ok (.iinc 6 1, 3) := by decide +kernel
theorem dX5_decadesNow_80 : decode cX5_decadesNow 80 = .ok (.goto (-65), 3) := by decide +kernel
theorem dX5_decadesNow_83 : decode cX5_decadesNow 83 = .ok (.aload_n 0, 1) := by decide +kernel
theorem dX5_decadesNow_84 : decode cX5_decadesNow 84 = .ok (.iload_n 2, 1) := by decide +kernel
theorem dX5_decadesNow_85 : decode cX5_decadesNow 85 = .ok (.i2l, 1) := by decide +kernel
theorem dX5_decadesNow_86 : decode cX5_decadesNow 86 = .ok (.putfield 284, 3) := by decide +kernel
theorem dX5_decadesNow_89 : decode cX5_decadesNow 89 = .ok (.iconst 0, 1) := by decide +kernel
theorem dX5_decadesNow_90 : decode cX5_decadesNow 90 = .ok (.istore 6, 2) := by decide +kernel
theorem dX5_decadesNow_92 : decode cX5_decadesNow 92 = .ok (.iconst 0, 1) := by decide +kernel
theorem dX5_decadesNow_93 : decode cX5_decadesNow 93 = .ok (.istore 7, 2) := by decide +kernel
theorem dX5_decadesNow_95 : decode cX5_decadesNow 95 = .ok (.iload 7, 2) := by decide +kernel
theorem dX5_decadesNow_97 : decode cX5_decadesNow 97 = .ok (.iload_n 1, 1) := by decide +kernel
theorem dX5_decadesNow_98 : decode cX5_decadesNow 98 = .ok (.if_icmp .ge 33, 3) := by decide +kernel
theorem dX5_decadesNow_101 : decode cX5_decadesNow 101 = .ok (.aload_n 0, 1) := by decide +kernel
theorem dX5_decadesNow_102 : decode cX5_decadesNow 102 = .ok (.iconst 2, 1) := by decide +kernel
theorem dX5_decadesNow_103 : decode cX5_decadesNow 103 = .ok (.invokevirtual 294, 3) := by decide +kernel
theorem dX5_decadesNow_106 : decode cX5_decadesNow 106 = .ok (.istore 8, 2) := by decide +kernel
theorem dX5_decadesNow_108 : decode cX5_decadesNow 108 = .ok (.iload 6, 2) := by decide +kernel
theorem dX5_decadesNow_110 : decode cX5_decadesNow 110 = .ok (.aload_n 0, 1) := by decide +kernel
theorem dX5_decadesNow_111 : decode cX5_decadesNow 111 = .ok (.iload 8, 2) := by decide +kernel
theorem dX5_decadesNow_113 : decode cX5_decadesNow 113 = .ok (.aload_n 0, 1) := by decide +kernel
theorem dX5_decadesNow_114 : decode cX5_decadesNow 114 = .ok (.bipush 10, 2) := by decide +kernel
theorem dX5_decadesNow_116 : decode cX5_decadesNow 116 = .ok (.invokevirtual 294, 3) := by decide +kernel
theorem dX5_decadesNow_119 : decode cX5_decadesNow 119 = .ok (.invokevirtual 221, 3) := by decide +kernel
theorem dX5_decadesNow_122 : decode cX5_decadesNow 122 = .ok (.iadd, 1) := by decide +kernel
theorem dX5_decadesNow_123 : decode cX5_decadesNow 123 = .ok (.istore 6, 2) := by decide +kernel
theorem dX5_decadesNow_125 : decode cX5_decadesNow 125 = .ok (.iinc 7 1, 3) := by decide +kernel
theorem dX5_decadesNow_128 : decode cX5_decadesNow 128 = .ok (.goto (-33), 3) := by decide +kernel
theorem dX5_decadesNow_131 : decode cX5_decadesNow 131 = .ok (.aload_n 0, 1) := by decide +kernel
theorem dX5_decadesNow_132 : decode cX5_decadesNow 132 = .ok (.invokevirtual 297, 3) := by decide +kernel
theorem dX5_decadesNow_135 : decode cX5_decadesNow 135 = .ok (.istore 7, 2) := by decide +kernel
theorem dX5_decadesNow_137 : decode cX5_decadesNow 137 = .ok (.iconst 0, 1) := by decide +kernel
theorem dX5_decadesNow_138 : decode cX5_decadesNow 138 = .ok (.istore 8, 2) := by decide +kernel
theorem dX5_decadesNow_140 : decode cX5_decadesNow 140 = .ok (.iload 8, 2) := by decide +kernel
theorem dX5_decadesNow_142 : decode cX5_decadesNow 142 = .ok (.iconst 5, 1) := by decide +kernel
theorem dX5_decadesNow_143 : decode cX5_decadesNow 143 = .ok (.if_icmp .ge 65, 3) := by decide +kernel
theorem dX5_decadesNow_146 : decode cX5_decadesNow 146 = .ok (.aload_n 0, 1) := by decide +kernel
theorem dX5_decadesNow_147 : decode cX5_decadesNow 147 = .ok (.getfield 16, 3) := by decide +kernel
theorem dX5_decadesNow_150 : decode cX5_decadesNow 150 = .ok (.iload 8, 2) := by decide +kernel
theorem dX5_decadesNow_152 : decode cX5_decadesNow 152 = .ok (.aload_n 0, 1) := by decide +kernel
theorem dX5_decadesNow_153 : decode cX5_decadesNow 153 = .ok (.getfield 57, 3) := by decide +kernel
theorem dX5_decadesNow_156 : decode cX5_decadesNow 156 = .ok (.iload 8, 2) := by decide +kernel
theorem dX5_decadesNow_158 : decode cX5_decadesNow 158 = .ok (.iaload, 1) := by decide +kernel
theorem dX5_decadesNow_159 : decode cX5_decadesNow 159 = .ok (.iastore, 1) := by decide +kernel
theorem dX5_decadesNow_160 : decode cX5_decadesNow 160 = .ok (.aload_n 0, 1) := by decide +kernel
theorem dX5_decadesNow_161 : decode cX5_decadesNow 161 = .ok (.getfield 19, 3) := by decide +kernel
theorem dX5_decadesNow_164 : decode cX5_decadesNow 164 = .ok (.iload 8, 2) := by decide +kernel
theorem dX5_decadesNow_166 : decode cX5_decadesNow 166 = .ok (.aload_n 0, 1) := by decide +kernel
theorem dX5_decadesNow_167 : decode cX5_decadesNow 167 = .ok (.getfield 60, 3) := by decide +kernel
theorem dX5_decadesNow_170 : decode cX5_decadesNow 170 = .ok (.iload 8, 2) := by decide +kernel
theorem dX5_decadesNow_172 : decode cX5_decadesNow 172 = .ok (.iaload, 1) := by decide +kernel
theorem dX5_decadesNow_173 : decode cX5_decadesNow 173 = .ok (.iastore, 1) := by decide +kernel
theorem dX5_decadesNow_174 : decode cX5_decadesNow 174 = .ok (.aload_n 0, 1) := by decide +kernel
theorem dX5_decadesNow_175 : decode cX5_decadesNow 175 = .ok (.getfield 22, 3) := by decide +kernel
theorem dX5_decadesNow_178 : decode cX5_decadesNow 178 = .ok (.iload 8, 2) := by decide +kernel
theorem dX5_decadesNow_180 : decode cX5_decadesNow 180 = .ok (.aload_n 0, 1) := by decide +kernel
theorem dX5_decadesNow_181 : decode cX5_decadesNow 181 = .ok (.getfield 63, 3) := by decide +kernel
theorem dX5_decadesNow_184 : decode cX5_decadesNow 184 = .ok (.iload 8, 2) := by decide +kernel
theorem dX5_decadesNow_186 : decode cX5_decadesNow 186 = .ok (.iaload, 1) := by decide +kernel
theorem dX5_decadesNow_187 : decode cX5_decadesNow 187 = .ok (.iastore, 1) := by decide +kernel
theorem dX5_decadesNow_188 : decode cX5_decadesNow 188 = .ok (.aload_n 0, 1) := by decide +kernel
theorem dX5_decadesNow_189 : decode cX5_decadesNow 189 = .ok (.getfield 25, 3) := by decide +kernel
theorem dX5_decadesNow_192 : decode cX5_decadesNow 192 = .ok (.iload 8, 2) := by decide +kernel
theorem dX5_decadesNow_194 : decode cX5_decadesNow 194 = .ok (.aload_n 0, 1) := by decide +kernel
theorem dX5_decadesNow_195 : decode cX5_decadesNow 195 = .ok (.getfield 66, 3) := by decide +kernel
theorem dX5_decadesNow_198 : decode cX5_decadesNow 198 = .ok (.iload 8, 2) := by decide +kernel
theorem dX5_decadesNow_200 : decode cX5_decadesNow 200 = .ok (.iaload, 1) := by decide +kernel
theorem dX5_decadesNow_201 : decode cX5_decadesNow 201 = .ok (.iastore, 1) := by decide +kernel
theorem dX5_decadesNow_202 : decode cX5_decadesNow 202 = .ok (.iinc 8 1, 3) := by decide +kernel
theorem dX5_decadesNow_205 : decode cX5_decadesNow 205 = .ok (.goto (-65), 3) := by decide +kernel
theorem dX5_decadesNow_208 : decode cX5_decadesNow 208 = .ok (.aload_n 0, 1) := by decide +kernel
theorem dX5_decadesNow_209 : decode cX5_decadesNow 209 = .ok (.iload 4, 2) := by decide +kernel
theorem dX5_decadesNow_211 : decode cX5_decadesNow 211 = .ok (.putfield 140, 3) := by decide +kernel
theorem dX5_decadesNow_214 : decode cX5_decadesNow 214 = .ok (.aload_n 0, 1) := by decide +kernel
theorem dX5_decadesNow_215 : decode cX5_decadesNow 215 = .ok (.iload 5, 2) := by decide +kernel
theorem dX5_decadesNow_217 : decode cX5_decadesNow 217 = .ok (.putfield 143, 3) := by decide +kernel
theorem dX5_decadesNow_220 : decode cX5_decadesNow 220 = .ok (.iload_n 3, 1) := by decide +kernel
theorem dX5_decadesNow_221 : decode cX5_decadesNow 221 = .ok (.ifCond .ne 8, 3) := by decide +kernel
theorem dX5_decadesNow_224 : decode cX5_decadesNow 224 = .ok (.iload 6, 2) := by decide +kernel
theorem dX5_decadesNow_226 : decode cX5_decadesNow 226 = .ok (.goto 18, 3) := by decide +kernel
theorem dX5_decadesNow_229 : decode cX5_decadesNow 229 = .ok (.iload_n 3, 1) := by decide +kernel
theorem dX5_decadesNow_230 : decode cX5_decadesNow 230 = .ok (.iconst 1, 1) := by decide +kernel
theorem dX5_decadesNow_231 : decode cX5_decadesNow 231 = .ok (.if_icmp .ne 8, 3) := by decide +kernel
theorem dX5_decadesNow_234 : decode cX5_decadesNow 234 = .ok (.iload 7, 2) := by decide +kernel
theorem dX5_decadesNow_236 : decode cX5_decadesNow 236 = .ok (.goto 8, 3) := by decide +kernel
theorem dX5_decadesNow_239 : decode cX5_decadesNow 239 = .ok (.aload_n 0, 1) := by decide +kernel
theorem dX5_decadesNow_240 : decode cX5_decadesNow 240 = .ok (.getfield 284, 3) := by decide +kernel
theorem dX5_decadesNow_243 : decode cX5_decadesNow 243 = .ok (.l2i, 1) := by decide +kernel
theorem dX5_decadesNow_244 : decode cX5_decadesNow 244 = .ok (.ireturn, 1) := by decide +kernel
theorem dX5_decades_0 : decode cX5_decades 0 = .ok (.iload_n 1, 1) := by decide +kernel
theorem dX5_decades_1 : decode cX5_decades 1 = .ok (.iconst 1, 1) := by decide +kernel
theorem dX5_decades_2 : decode cX5_decades 2 = .ok (.bipush 60, 2) := by decide +kernel
theorem dX5_decades_4 : decode cX5_decades 4 = .ok (.invokestatic 96, 3) := by decide +kernel
theorem dX5_decades_7 : decode cX5_decades 7 = .ok (.ifCond .eq 16, 3) := by decide +kernel
theorem dX5_decades_10 : decode cX5_decades 10 = .ok (.iload_n 2, 1) := by decide +kernel
theorem dX5_decades_11 : decode cX5_decades 11 = .ok (.ifCond .lt 12, 3) := by decide +kernel
theorem dX5_decades_14 : decode cX5_decades 14 = .ok (.iload_n 3, 1) := by decide +kernel
theorem dX5_decades_15 : decode cX5_decades 15 = .ok (.iconst 0, 1) := by decide +kernel
theorem dX5_decades_16 : decode cX5_decades 16 = .ok (.iconst 2, 1) := by decide +kernel
theorem dX5_decades_17 : decode cX5_decades 17 = .ok (.invokestatic 96, 3) := by decide +kernel
theorem dX5_decades_20 : decode cX5_decades 20 = .ok (.ifCond .ne 6, 3) := by decide +kernel
theorem dX5_decades_23 : decode cX5_decades 23 = .ok (.bipush (-102), 2) := by decide +kernel
theorem dX5_decades_25 : decode cX5_decades 25 = .ok (.ireturn, 1) := by decide +kernel
theorem dX5_decades_26 : decode cX5_decades 26 = .ok (.aload_n 0, 1) := by decide +kernel
theorem dX5_decades_27 : decode cX5_decades 27 = .ok (.getfield 131, 3) := by decide +kernel
theorem dX5_decades_30 : decode cX5_decades 30 = .ok (.ifCond .ne 8, 3) := by decide +kernel
theorem dX5_decades_33 : decode cX5_decades 33 = .ok (.bipush (-103), 2) := by decide +kernel
theorem dX5_decades_35 : decode cX5_decades 35 = .ok (.goto 10, 3) := by decide +kernel
theorem dX5_decades_38 : decode cX5_decades 38 = .ok (.aload_n 0, 1) := by decide +kernel
theorem dX5_decades_39 : decode cX5_decades 39 = .ok (.iload_n 1, 1) := by decide +kernel
theorem dX5_decades_40 : decode cX5_decades 40 = .ok (.iload_n 2, 1) := by decide +kernel
theorem dX5_decades_41 : decode cX5_decades 41 = .ok (.iload_n 3, 1) := by decide +kernel
theorem dX5_decades_42 : decode cX5_decades 42 = .ok (.invokevirtual 300, 3) := by decide +kernel
theorem dX5_decades_45 : decode cX5_decades 45 = .ok (.ireturn, 1) := by decide +kernel
theorem dX5_image_0 : decode cX5_image 0 = .ok (.aload_n 0, 1) := by decide +kernel
theorem dX5_image_1 : decode cX5_image 1 = .ok (.getfield 131, 3) := by decide +kernel
theorem dX5_image_4 : decode cX5_image 4 = .ok (.ifCond .ne 6, 3) := by decide +kernel
theorem dX5_image_7 : decode cX5_image 7 = .ok (.bipush (-103), 2) := by decide +kernel
theorem dX5_image_9 : decode cX5_image 9 = .ok (.ireturn, 1) := by decide +kernel
theorem dX5_image_10 : decode cX5_image 10 = .ok (.aload_n 0, 1) := by decide +kernel
theorem dX5_image_11 : decode cX5_image 11 = .ok (.iconst 1, 1) := by decide +kernel
theorem dX5_image_12 : decode cX5_image 12 = .ok (.putfield 303, 3) := by decide +kernel
theorem dX5_image_15 : decode cX5_image 15 = .ok (.aload_n 0, 1) := by decide +kernel
theorem dX5_image_16 : decode cX5_image 16 = .ok (.aload_n 0, 1) := by decide +kernel
theorem dX5_image_17 : decode cX5_image 17 = .ok (.getfield 146, 3) := by decide +kernel
theorem dX5_image_20 : decode cX5_image 20 = .ok (.putfield 306, 3) := by decide +kernel
theorem dX5_image_23 : decode cX5_image 23 = .ok (.aload_n 0, 1) := by decide +kernel
theorem dX5_image_24 : decode cX5_image 24 = .ok (.aload_n 0, 1) := by decide +kernel
theorem dX5_image_25 : decode cX5_image 25 = .ok (.getfield 137, 3) := by decide +kernel
theorem dX5_image_28 : decode cX5_image 28 = .ok (.putfield 309, 3) := by decide +kernel
theorem dX5_image_31 : decode cX5_image 31 = .ok (.aload_n 0, 1) := by decide +kernel
theorem dX5_image_32 : decode cX5_image 32 = .ok (.aload_n 0, 1) := by decide +kernel
theorem dX5_image_33 : decode cX5_image 33 = .ok (.getfield 140, 3) := by decide +kernel
theorem dX5_image_36 : decode cX5_image 36 = .ok (.putfield 312, 3) := by decide +kernel
theorem dX5_image_39 : decode cX5_image 39 = .ok (.aload_n 0, 1) := by decide +kernel
theorem dX5_image_40 : decode cX5_image 40 = .ok (.aload_n 0, 1) := by decide +kernel
theorem dX5_image_41 : decode cX5_image 41 = .ok (.getfield 143, 3) := by decide +kernel
theorem dX5_image_44 : decode cX5_image 44 = .ok (.putfield 315, 3) := by decide +kernel
theorem dX5_image_47 : decode cX5_image 47 = .ok (.aload_n 0, 1) := by decide +kernel
theorem dX5_image_48 : decode cX5_image 48 = .ok (.aload_n 0, 1) := by decide +kernel
theorem dX5_image_49 : decode cX5_image 49 = .ok (.getfield 149, 3) := by decide +kernel
theorem dX5_image_52 : decode cX5_image 52 = .ok (.putfield 318, 3) := by decide +kernel
theorem dX5_image_55 : decode cX5_image 55 = .ok (.iconst 0, 1) := by decide +kernel
theorem dX5_image_56 : decode cX5_image 56 = .ok (.istore_n 1, 1) := by decide +kernel
theorem dX5_image_57 : decode cX5_image 57 = .ok (.iload_n 1, 1) := by decide +kernel
theorem dX5_image_58 : decode cX5_image 58 = .ok (.iconst 4, 1) := by decide +kernel
theorem dX5_image_59 : decode cX5_image 59 = .ok (.if_icmp .ge 21, 3) := by decide +kernel
theorem dX5_image_62 : decode cX5_image 62 = .ok (.aload_n 0, 1) := by decide +kernel
theorem dX5_image_63 : decode cX5_image 63 = .ok (.getfield 69, 3) := by decide +kernel
theorem dX5_image_66 : decode cX5_image 66 = .ok (.iload_n 1, 1) := by decide +kernel
theorem dX5_image_67 : decode cX5_image 67 = .ok (.aload_n 0, 1) := by decide +kernel
theorem dX5_image_68 : decode cX5_image 68 = .ok (.getfield 7, 3) := by decide +kernel
theorem dX5_image_71 : decode cX5_image 71 = .ok (.iload_n 1, 1) := by decide +kernel
theorem dX5_image_72 : decode cX5_image 72 = .ok (.iaload, 1) := by decide +kernel
theorem dX5_image_73 : decode cX5_image 73 = .ok (.iastore, 1) := by decide +kernel
theorem dX5_image_74 : decode cX5_image 74 = .ok (.iinc 1 1, 3) := by decide +kernel
theorem dX5_image_77 : decode cX5_image 77 = .ok (.goto (-20), 3) := by decide +kernel
theorem dX5_image_80 : decode cX5_image 80 = .ok (.iconst 0, 1) := by decide +kernel
theorem dX5_image_81 : decode cX5_image 81 = .ok (.istore_n 1, 1) := by decide +kernel
theorem dX5_image_82 : decode cX5_image 82 = .ok (.iload_n 1, 1) := by decide +kernel
theorem dX5_image_83 : decode cX5_image 83 = .ok (.iconst 5, 1) := by decide +kernel
theorem dX5_image_84 : decode cX5_image 84 = .ok (.if_icmp .ge 57, 3) := by decide +kernel
theorem dX5_image_87 : decode cX5_image 87 = .ok (.aload_n 0, 1) := by decide +kernel
theorem dX5_image_88 : decode cX5_image 88 = .ok (.getfield 72, 3) := by decide +kernel
theorem dX5_image_91 : decode cX5_image 91 = .ok (.iload_n 1, 1) := by decide +kernel
theorem dX5_image_92 : decode cX5_image 92 = .ok (.aload_n 0, 1) := by decide +kernel
theorem dX5_image_93 : decode cX5_image 93 = .ok (.getfield 16, 3) := by decide +kernel
theorem dX5_image_96 : decode cX5_image 96 = .ok (.iload_n 1, 1) := by decide +kernel
theorem dX5_image_97 : decode cX5_image 97 = .ok (.iaload, 1) := by decide +kernel
theorem dX5_image_98 : decode cX5_image 98 = .ok (.iastore, 1) := by decide +kernel
theorem dX5_image_99 : decode cX5_image 99 = .ok (.aload_n 0, 1) := by decide +kernel
theorem dX5_image_100 : decode cX5_image 100 = .ok (.getfield 75, 3) := by decide +kernel
theorem dX5_image_103 : decode cX5_image 103 = .ok (.iload_n 1, 1) := by decide +kernel
theorem dX5_image_104 : decode cX5_image 104 = .ok (.aload_n 0, 1) := by decide +kernel
theorem dX5_image_105 : decode cX5_image 105 = .ok (.getfield 19, 3) := by decide +kernel
theorem dX5_image_108 : decode cX5_image 108 = .ok (.iload_n 1, 1) := by decide +kernel
theorem dX5_image_109 : decode cX5_image 109 = .ok (.iaload, 1) := by decide +kernel
theorem dX5_image_110 : decode cX5_image 110 = .ok (.iastore, 1) := by decide +kernel
theorem dX5_image_111 : decode cX5_image 111 = .ok (.aload_n 0, 1) := by decide +kernel
theorem dX5_image_112 : decode cX5_image 112 = .ok (.getfield 78, 3) := by decide +kernel
theorem dX5_image_115 : decode cX5_image 115 = .ok (.iload_n 1, 1) := by decide +kernel
theorem dX5_image_116 : decode cX5_image 116 = .ok (.aload_n 0, 1) := by decide +kernel
theorem dX5_image_117 : decode cX5_image 117 = .ok (.getfield 22, 3) := by decide +kernel
theorem dX5_image_120 : decode cX5_image 120 = .ok (.iload_n 1, 1) := by decide +kernel
theorem dX5_image_121 : decode cX5_image 121 = .ok (.iaload, 1) := by decide +kernel
theorem dX5_image_122 : decode cX5_image 122 = .ok (.iastore, 1) := by decide +kernel
theorem dX5_image_123 : decode cX5_image 123 = .ok (.aload_n 0, 1) := by decide +kernel
theorem dX5_image_124 : decode cX5_image 124 = .ok (.getfield 81, 3) := by decide +kernel
theorem dX5_image_127 : decode cX5_image 127 = .ok (.iload_n 1, 1) := by decide +kernel
theorem dX5_image_128 : decode cX5_image 128 = .ok (.aload_n 0, 1) := by decide +kernel
theorem dX5_image_129 : decode cX5_image 129 = .ok (.getfield 25, 3) := by decide +kernel
theorem dX5_image_132 : decode cX5_image 132 = .ok (.iload_n 1, 1) := by decide +kernel
theorem dX5_image_133 : decode cX5_image 133 = .ok (.iaload, 1) := by decide +kernel
theorem dX5_image_134 : decode cX5_image 134 = .ok (.iastore, 1) := by decide +kernel
theorem dX5_image_135 : decode cX5_image 135 = .ok (.iinc 1 1, 3) := by decide +kernel
theorem dX5_image_138 : decode cX5_image 138 = .ok (.goto (-56), 3) := by decide +kernel
theorem dX5_image_141 : decode cX5_image 141 = .ok (.iconst 0, 1) := by decide +kernel
theorem dX5_image_142 : decode cX5_image 142 = .ok (.istore_n 1, 1) := by decide +kernel
theorem dX5_image_143 : decode cX5_image 143 = .ok (.iload_n 1, 1) := by decide +kernel
theorem dX5_image_144 : decode cX5_image 144 = .ok (.bipush 8, 2) := by decide +kernel
theorem dX5_image_146 : decode cX5_image 146 = .ok (.if_icmp .ge 57, 3) := by decide +kernel
theorem dX5_image_149 : decode cX5_image 149 = .ok (.aload_n 0, 1) := by decide +kernel
theorem dX5_image_150 : decode cX5_image 150 = .ok (.getfield 84, 3) := by decide +kernel
theorem dX5_image_153 : decode cX5_image 153 = .ok (.iload_n 1, 1) := by decide +kernel
theorem dX5_image_154 : decode cX5_image 154 = .ok (.aload_n 0, 1) := by decide +kernel
theorem dX5_image_155 : decode cX5_image 155 = .ok (.getfield 28, 3) := by decide +kernel
theorem dX5_image_158 : decode cX5_image 158 = .ok (.iload_n 1, 1) := by decide +kernel
theorem dX5_image_159 : decode cX5_image 159 = .ok (.iaload, 1) := by decide +kernel
theorem dX5_image_160 : decode cX5_image 160 = .ok (.iastore, 1) := by decide +kernel
theorem dX5_image_161 : decode cX5_image 161 = .ok (.aload_n 0, 1) := by decide +kernel
theorem dX5_image_162 : decode cX5_image 162 = .ok (.getfield 87, 3) := by decide +kernel
theorem dX5_image_165 : decode cX5_image 165 = .ok (.iload_n 1, 1) := by decide +kernel
theorem dX5_image_166 : decode cX5_image 166 = .ok (.aload_n 0, 1) := by decide +kernel
theorem dX5_image_167 : decode cX5_image 167 = .ok (.getfield 31, 3) := by decide +kernel
theorem dX5_image_170 : decode cX5_image 170 = .ok (.iload_n 1, 1) := by decide +kernel
theorem dX5_image_171 : decode cX5_image 171 = .ok (.iaload, 1) := by decide +kernel
theorem dX5_image_172 : decode cX5_image 172 = .ok (.iastore, 1) := by decide +kernel
theorem dX5_image_173 : decode cX5_image 173 = .ok (.aload_n 0, 1) := by decide +kernel
theorem dX5_image_174 : decode cX5_image 174 = .ok (.getfield 90, 3) := by decide +kernel
theorem dX5_image_177 : decode cX5_image 177 = .ok (.iload_n 1, 1) := by decide +kernel
theorem dX5_image_178 : decode cX5_image 178 = .ok (.aload_n 0, 1) := by decide +kernel
theorem dX5_image_179 : decode cX5_image 179 = .ok (.getfield 34, 3) := by decide +kernel
theorem dX5_image_182 : decode cX5_image 182 = .ok (.iload_n 1, 1) := by decide +kernel
theorem dX5_image_183 : decode cX5_image 183 = .ok (.iaload, 1) := by decide +kernel
theorem dX5_image_184 : decode cX5_image 184 = .ok (.iastore, 1) := by decide +kernel
theorem dX5_image_185 : decode cX5_image 185 = .ok (.aload_n 0, 1) := by decide +kernel
theorem dX5_image_186 : decode cX5_image 186 = .ok (.getfield 93, 3) := by decide +kernel
theorem dX5_image_189 : decode cX5_image 189 = .ok (.iload_n 1, 1) := by decide +kernel
theorem dX5_image_190 : decode cX5_image 190 = .ok (.aload_n 0, 1) := by decide +kernel
theorem dX5_image_191 : decode cX5_image 191 = .ok (.getfield 37, 3) := by decide +kernel
theorem dX5_image_194 : decode cX5_image 194 = .ok (.iload_n 1, 1) := by decide +kernel
theorem dX5_image_195 : decode cX5_image 195 = .ok (.iaload, 1) := by decide +kernel
theorem dX5_image_196 : decode cX5_image 196 = .ok (.iastore, 1) := by decide +kernel
theorem dX5_image_197 : decode cX5_image 197 = .ok (.iinc 1 1, 3) := by decide +kernel
theorem dX5_image_200 : decode cX5_image 200 = .ok (.goto (-57), 3) := by decide +kernel
theorem dX5_image_203 : decode cX5_image 203 = .ok (.aload_n 0, 1) := by decide +kernel
theorem dX5_image_204 : decode cX5_image 204 = .ok (.getfield 137, 3) := by decide +kernel
theorem dX5_image_207 : decode cX5_image 207 = .ok (.ireturn, 1) := by decide +kernel
theorem dX5_restore_0 : decode cX5_restore 0 = .ok (.aload_n 0, 1) := by decide +kernel
theorem dX5_restore_1 : decode cX5_restore 1 = .ok (.getfield 303, 3) := by decide +kernel
theorem dX5_restore_4 : decode cX5_restore 4 = .ok (.ifCond .eq 14, 3) := by decide +kernel
theorem dX5_restore_7 : decode cX5_restore 7 = .ok (.aload_n 0, 1) := by decide +kernel
theorem dX5_restore_8 : decode cX5_restore 8 = .ok (.getfield 306, 3) := by decide +kernel
theorem dX5_restore_11 : decode cX5_restore 11 = .ok (.aload_n 0, 1) := by decide +kernel
theorem dX5_restore_12 : decode cX5_restore 12 = .ok (.getfield 146, 3) := by decide +kernel
theorem dX5_restore_15 : decode cX5_restore 15 = .ok (.if_icmp .eq 6, 3) := by decide +kernel
theorem dX5_restore_18 : decode cX5_restore 18 = .ok (.bipush (-103), 2) := by decide +kernel
theorem dX5_restore_20 : decode cX5_restore 20 = .ok (.ireturn, 1) := by decide +kernel
theorem dX5_restore_21 : decode cX5_restore 21 = .ok (.aload_n 0, 1) := by decide +kernel
theorem dX5_restore_22 : decode cX5_restore 22 = .ok (.aload_n 0, 1) := by decide +kernel
theorem dX5_restore_23 : decode cX5_restore 23 = .ok (.getfield 309, 3) := by decide +kernel
theorem dX5_restore_26 : decode cX5_restore 26 = .ok (.putfield 137, 3) := by decide +kernel
theorem dX5_restore_29 : decode cX5_restore 29 = .ok (.aload_n 0, 1) := by decide +kernel
theorem dX5_restore_30 : decode cX5_restore 30 = .ok (.aload_n 0, 1) := by decide +kernel
theorem dX5_restore_31 : decode cX5_restore 31 = .ok (.getfield 312, 3) := by decide +kernel
theorem dX5_restore_34 : decode cX5_restore 34 = .ok (.putfield 140, 3) := by decide +kernel
theorem dX5_restore_37 : decode cX5_restore 37 = .ok (.aload_n 0, 1) := by decide +kernel
theorem dX5_restore_38 : decode cX5_restore 38 = .ok (.aload_n 0, 1) := by decide +kernel
theorem dX5_restore_39 : decode cX5_restore 39 = .ok (.getfield 315, 3) := by decide +kernel
theorem dX5_restore_42 : decode cX5_restore 42 = .ok (.putfield 143, 3) := by decide +kernel
theorem dX5_restore_45 : decode cX5_restore 45 = .ok (.aload_n 0, 1) := by decide +kernel
theorem dX5_restore_46 : decode cX5_restore 46 = .ok (.aload_n 0, 1) := by decide +kernel
theorem dX5_restore_47 : decode cX5_restore 47 = .ok (.getfield 318, 3) := by decide +kernel
theorem dX5_restore_50 : decode cX5_restore 50 = .ok (.putfield 149, 3) := by decide +kernel
theorem dX5_restore_53 : decode cX5_restore 53 = .ok (.iconst 0, 1) := by decide +kernel
theorem dX5_restore_54 : decode cX5_restore 54 = .ok (.istore_n 1, 1) := by decide +kernel
theorem dX5_restore_55 : decode cX5_restore 55 = .ok (.iload_n 1, 1) := by decide +kernel
theorem dX5_restore_56 : decode cX5_restore 56 = .ok (.iconst 4, 1) := by decide +kernel
theorem dX5_restore_57 : decode cX5_restore 57 = .ok (.if_icmp .ge 21, 3) := by decide +kernel
theorem dX5_restore_60 : decode cX5_restore 60 = .ok (.aload_n 0, 1) := by decide +kernel
theorem dX5_restore_61 : decode cX5_restore 61 = .ok (.getfield 7, 3) := by decide +kernel
theorem dX5_restore_64 : decode cX5_restore 64 = .ok (.iload_n 1, 1) := by decide +kernel
theorem dX5_restore_65 : decode cX5_restore 65 = .ok (.aload_n 0, 1) := by decide +kernel
theorem dX5_restore_66 : decode cX5_restore 66 = .ok (.getfield 69, 3) := by decide +kernel
theorem dX5_restore_69 : decode cX5_restore 69 = .ok (.iload_n 1, 1) := by decide +kernel
theorem dX5_restore_70 : decode cX5_restore 70 = .ok (.iaload, 1) := by decide +kernel
theorem dX5_restore_71 : decode cX5_restore 71 = .ok (.iastore, 1) := by decide +kernel
theorem dX5_restore_72 : decode cX5_restore 72 = .ok (.iinc 1 1, 3) := by decide +kernel
theorem dX5_restore_75 : decode cX5_restore 75 = .ok (.goto (-20), 3) := by decide +kernel
theorem dX5_restore_78 : decode cX5_restore 78 = .ok (.iconst 0, 1) := by decide +kernel
theorem dX5_restore_79 : decode cX5_restore 79 = .ok (.istore_n 1, 1) := by decide +kernel
theorem dX5_restore_80 : decode cX5_restore 80 = .ok (.iload_n 1, 1) := by decide +kernel
theorem dX5_restore_81 : decode cX5_restore 81 = .ok (.iconst 5, 1) := by decide +kernel
theorem dX5_restore_82 : decode cX5_restore 82 = .ok (.if_icmp .ge 57, 3) := by decide +kernel
theorem dX5_restore_85 : decode cX5_restore 85 = .ok (.aload_n 0, 1) := by decide +kernel
theorem dX5_restore_86 : decode cX5_restore 86 = .ok (.getfield 16, 3) := by decide +kernel
theorem dX5_restore_89 : decode cX5_restore 89 = .ok (.iload_n 1, 1) := by decide +kernel
theorem dX5_restore_90 : decode cX5_restore 90 = .ok (.aload_n 0, 1) := by decide +kernel
theorem dX5_restore_91 : decode cX5_restore 91 = .ok (.getfield 72, 3) := by decide +kernel
theorem dX5_restore_94 : decode cX5_restore 94 = .ok (.iload_n 1, 1) := by decide +kernel
theorem dX5_restore_95 : decode cX5_restore 95 = .ok (.iaload, 1) := by decide +kernel
theorem dX5_restore_96 : decode cX5_restore 96 = .ok (.iastore, 1) := by decide +kernel
theorem dX5_restore_97 : decode cX5_restore 97 = .ok (.aload_n 0, 1) := by decide +kernel
theorem dX5_restore_98 : decode cX5_restore 98 = .ok (.getfield 19, 3) := by decide +kernel
theorem dX5_restore_101 : decode cX5_restore 101 = .ok (.iload_n 1, 1) := by decide +kernel
theorem dX5_restore_102 : decode cX5_restore 102 = .ok (.aload_n 0, 1) := by decide +kernel
theorem dX5_restore_103 : decode cX5_restore 103 = .ok (.getfield 75, 3) := by decide +kernel
theorem dX5_restore_106 : decode cX5_restore 106 = .ok (.iload_n 1, 1) := by decide +kernel
theorem dX5_restore_107 : decode cX5_restore 107 = .ok (.iaload, 1) := by decide +kernel
theorem dX5_restore_108 : decode cX5_restore 108 = .ok (.iastore, 1) := by decide +kernel
theorem dX5_restore_109 : decode cX5_restore 109 = .ok (.aload_n 0, 1) := by decide +kernel
theorem dX5_restore_110 : decode cX5_restore 110 = .ok (.getfield 22, 3) := by decide +kernel
theorem dX5_restore_113 : decode cX5_restore 113 = .ok (.iload_n 1, 1) := by decide +kernel
theorem dX5_restore_114 : decode cX5_restore 114 = .ok (.aload_n 0, 1) := by decide +kernel
theorem dX5_restore_115 : decode cX5_restore 115 = .ok (.getfield 78, 3) := by decide +kernel
theorem dX5_restore_118 : decode cX5_restore 118 = .ok (.iload_n 1, 1) := by decide +kernel
theorem dX5_restore_119 : decode cX5_restore 119 = .ok (.iaload, 1) := by decide +kernel
theorem dX5_restore_120 : decode cX5_restore 120 = .ok (.iastore, 1) := by decide +kernel
theorem dX5_restore_121 : decode cX5_restore 121 = .ok (.aload_n 0, 1) := by decide +kernel
theorem dX5_restore_122 : decode cX5_restore 122 = .ok (.getfield 25, 3) := by decide +kernel
theorem dX5_restore_125 : decode cX5_restore 125 = .ok (.iload_n 1, 1) := by decide +kernel
theorem dX5_restore_126 : decode cX5_restore 126 = .ok (.aload_n 0, 1) := by decide +kernel
theorem dX5_restore_127 : decode cX5_restore 127 = .ok (.getfield 81, 3) := by decide +kernel
theorem dX5_restore_130 : decode cX5_restore 130 = .ok (.iload_n 1, 1) := by decide +kernel
theorem dX5_restore_131 : decode cX5_restore 131 = .ok (.iaload, 1) := by decide +kernel
theorem dX5_restore_132 : decode cX5_restore 132 = .ok (.iastore, 1) := by decide +kernel
theorem dX5_restore_133 : decode cX5_restore 133 = .ok (.iinc 1 1, 3) := by decide +kernel
theorem dX5_restore_136 : decode cX5_restore 136 = .ok (.goto (-56), 3) := by decide +kernel
theorem dX5_restore_139 : decode cX5_restore 139 = .ok (.iconst 0, 1) := by decide +kernel
theorem dX5_restore_140 : decode cX5_restore 140 = .ok (.istore_n 1, 1) := by decide +kernel
theorem dX5_restore_141 : decode cX5_restore 141 = .ok (.iload_n 1, 1) := by decide +kernel
theorem dX5_restore_142 : decode cX5_restore 142 = .ok (.bipush 8, 2) := by decide +kernel
theorem dX5_restore_144 : decode cX5_restore 144 = .ok (.if_icmp .ge 57, 3) := by decide +kernel
theorem dX5_restore_147 : decode cX5_restore 147 = .ok (.aload_n 0, 1) := by decide +kernel
theorem dX5_restore_148 : decode cX5_restore 148 = .ok (.getfield 28, 3) := by decide +kernel
theorem dX5_restore_151 : decode cX5_restore 151 = .ok (.iload_n 1, 1) := by decide +kernel
theorem dX5_restore_152 : decode cX5_restore 152 = .ok (.aload_n 0, 1) := by decide +kernel
theorem dX5_restore_153 : decode cX5_restore 153 = .ok (.getfield 84, 3) := by decide +kernel
theorem dX5_restore_156 : decode cX5_restore 156 = .ok (.iload_n 1, 1) := by decide +kernel
theorem dX5_restore_157 : decode cX5_restore 157 = .ok (.iaload, 1) := by decide +kernel
theorem dX5_restore_158 : decode cX5_restore 158 = .ok (.iastore, 1) := by decide +kernel
theorem dX5_restore_159 : decode cX5_restore 159 = .ok (.aload_n 0, 1) := by decide +kernel
theorem dX5_restore_160 : decode cX5_restore 160 = .ok (.getfield 31, 3) := by decide +kernel
theorem dX5_restore_163 : decode cX5_restore 163 = .ok (.iload_n 1, 1) := by decide +kernel
theorem dX5_restore_164 : decode cX5_restore 164 = .ok (.aload_n 0, 1) := by decide +kernel
theorem dX5_restore_165 : decode cX5_restore 165 = .ok (.getfield 87, 3) := by decide +kernel
theorem dX5_restore_168 : decode cX5_restore 168 = .ok (.iload_n 1, 1) := by decide +kernel
theorem dX5_restore_169 : decode cX5_restore 169 = .ok (.iaload, 1) := by decide +kernel
theorem dX5_restore_170 : decode cX5_restore 170 = .ok (.iastore, 1) := by decide +kernel
theorem dX5_restore_171 : decode cX5_restore 171 = .ok (.aload_n 0, 1) := by decide +kernel
theorem dX5_restore_172 : decode cX5_restore 172 = .ok (.getfield 34, 3) := by decide +kernel
theorem dX5_restore_175 : decode cX5_restore 175 = .ok (.iload_n 1, 1) := by decide +kernel
theorem dX5_restore_176 : decode cX5_restore 176 = .ok (.aload_n 0, 1) := by decide +kernel
theorem dX5_restore_177 : decode cX5_restore 177 = .ok (.getfield 90, 3) := by decide +kernel
theorem dX5_restore_180 : decode cX5_restore 180 = .ok (.iload_n 1, 1) := by decide +kernel
theorem dX5_restore_181 : decode cX5_restore 181 = .ok (.iaload, 1) := by decide +kernel
theorem dX5_restore_182 : decode cX5_restore 182 = .ok (.iastore, 1) := by decide +kernel
theorem dX5_restore_183 : decode cX5_restore 183 = .ok (.aload_n 0, 1) := by decide +kernel
theorem dX5_restore_184 : decode cX5_restore 184 = .ok (.getfield 37, 3) := by decide +kernel
theorem dX5_restore_187 : decode cX5_restore 187 = .ok (.iload_n 1, 1) := by decide +kernel
theorem dX5_restore_188 : decode cX5_restore 188 = .ok (.aload_n 0, 1) := by decide +kernel
theorem dX5_restore_189 : decode cX5_restore 189 = .ok (.getfield 93, 3) := by decide +kernel
theorem dX5_restore_192 : decode cX5_restore 192 = .ok (.iload_n 1, 1) := by decide +kernel
theorem dX5_restore_193 : decode cX5_restore 193 = .ok (.iaload, 1) := by decide +kernel
theorem dX5_restore_194 : decode cX5_restore 194 = .ok (.iastore, 1) := by decide +kernel
theorem dX5_restore_195 : decode cX5_restore 195 = .ok (.iinc 1 1, 3) := by decide +kernel
theorem dX5_restore_198 : decode cX5_restore 198 = .ok (.goto (-57), 3) := by decide +kernel
theorem dX5_restore_201 : decode cX5_restore 201 = .ok (.aload_n 0, 1) := by decide +kernel
theorem dX5_restore_202 : decode cX5_restore 202 = .ok (.getfield 137, 3) := by decide +kernel
theorem dX5_restore_205 : decode cX5_restore 205 = .ok (.ireturn, 1) := by decide +kernel
theorem dX5_howMany_0 : decode cX5_howMany 0 = .ok (.iload_n 1, 1) := by decide +kernel
theorem dX5_howMany_1 : decode cX5_howMany 1 = .ok (.tableswitch 125 0 11 #[63, 68, 73, 78, 85, 90, 95, 100, 105, 110, 115, 120], 63) := by decide +kernel
theorem dX5_howMany_64 : decode cX5_howMany 64 = .ok (.aload_n 0, 1) := by decide +kernel
theorem dX5_howMany_65 : decode cX5_howMany 65 = .ok (.getfield 131, 3) := by decide +kernel
theorem dX5_howMany_68 : decode cX5_howMany 68 = .ok (.ireturn, 1) := by decide +kernel
theorem dX5_howMany_69 : decode cX5_howMany 69 = .ok (.aload_n 0, 1) := by decide +kernel
theorem dX5_howMany_70 : decode cX5_howMany 70 = .ok (.getfield 134, 3) := by decide +kernel
theorem dX5_howMany_73 : decode cX5_howMany 73 = .ok (.ireturn, 1) := by decide +kernel
theorem dX5_howMany_74 : decode cX5_howMany 74 = .ok (.aload_n 0, 1) := by decide +kernel
theorem dX5_howMany_75 : decode cX5_howMany 75 = .ok (.invokevirtual 297, 3) := by decide +kernel
theorem dX5_howMany_78 : decode cX5_howMany 78 = .ok (.ireturn, 1) := by decide +kernel
theorem dX5_howMany_79 : decode cX5_howMany 79 = .ok (.aload_n 0, 1) := by decide +kernel
theorem dX5_howMany_80 : decode cX5_howMany 80 = .ok (.bipush 31, 2) := by decide +kernel
theorem dX5_howMany_82 : decode cX5_howMany 82 = .ok (.invokevirtual 192, 3) := by decide +kernel
theorem dX5_howMany_85 : decode cX5_howMany 85 = .ok (.ireturn, 1) := by decide +kernel
theorem dX5_howMany_86 : decode cX5_howMany 86 = .ok (.aload_n 0, 1) := by decide +kernel
theorem dX5_howMany_87 : decode cX5_howMany 87 = .ok (.invokevirtual 259, 3) := by decide +kernel
theorem dX5_howMany_90 : decode cX5_howMany 90 = .ok (.ireturn, 1) := by decide +kernel
theorem dX5_howMany_91 : decode cX5_howMany 91 = .ok (.aload_n 0, 1) := by decide +kernel
theorem dX5_howMany_92 : decode cX5_howMany 92 = .ok (.getfield 137, 3) := by decide +kernel
theorem dX5_howMany_95 : decode cX5_howMany 95 = .ok (.ireturn, 1) := by decide +kernel
theorem dX5_howMany_96 : decode cX5_howMany 96 = .ok (.aload_n 0, 1) := by decide +kernel
theorem dX5_howMany_97 : decode cX5_howMany 97 = .ok (.getfield 140, 3) := by decide +kernel
theorem dX5_howMany_100 : decode cX5_howMany 100 = .ok (.ireturn, 1) := by decide +kernel
theorem dX5_howMany_101 : decode cX5_howMany 101 = .ok (.aload_n 0, 1) := by decide +kernel
theorem dX5_howMany_102 : decode cX5_howMany 102 = .ok (.getfield 143, 3) := by decide +kernel
theorem dX5_howMany_105 : decode cX5_howMany 105 = .ok (.ireturn, 1) := by decide +kernel
theorem dX5_howMany_106 : decode cX5_howMany 106 = .ok (.aload_n 0, 1) := by decide +kernel
theorem dX5_howMany_107 : decode cX5_howMany 107 = .ok (.getfield 149, 3) := by decide +kernel
theorem dX5_howMany_110 : decode cX5_howMany 110 = .ok (.ireturn, 1) := by decide +kernel
theorem dX5_howMany_111 : decode cX5_howMany 111 = .ok (.aload_n 0, 1) := by decide +kernel
theorem dX5_howMany_112 : decode cX5_howMany 112 = .ok (.getfield 100, 3) := by decide +kernel
theorem dX5_howMany_115 : decode cX5_howMany 115 = .ok (.ireturn, 1) := by decide +kernel
theorem dX5_howMany_116 : decode cX5_howMany 116 = .ok (.aload_n 0, 1) := by decide +kernel
theorem dX5_howMany_117 : decode cX5_howMany 117 = .ok (.getfield 146, 3) := by decide +kernel
theorem dX5_howMany_120 : decode cX5_howMany 120 = .ok (.ireturn, 1) := by decide +kernel
theorem dX5_howMany_121 : decode cX5_howMany 121 = .ok (.aload_n 0, 1) := by decide +kernel
theorem dX5_howMany_122 : decode cX5_howMany 122 = .ok (.getfield 253, 3) := by decide +kernel
theorem dX5_howMany_125 : decode cX5_howMany 125 = .ok (.ireturn, 1) := by decide +kernel
theorem dX5_howMany_126 : decode cX5_howMany 126 = .ok (.bipush (-102), 2) := by decide +kernel
theorem dX5_howMany_128 : decode cX5_howMany 128 = .ok (.ireturn, 1) := by decide +kernel
theorem dX5_count_0 : decode cX5_count 0 = .ok (.aload_n 0, 1) := by decide +kernel
theorem dX5_count_1 : decode cX5_count 1 = .ok (.iload_n 1, 1) := by decide +kernel
theorem dX5_count_2 : decode cX5_count 2 = .ok (.invokevirtual 321, 3) := by decide +kernel
theorem dX5_count_5 : decode cX5_count 5 = .ok (.ireturn, 1) := by decide +kernel
theorem dX5_mix_0 : decode cX5_mix 0 = .ok (.aload_n 0, 1) := by decide +kernel
theorem dX5_mix_1 : decode cX5_mix 1 = .ok (.ldc2_w 324, 3) := by decide +kernel
theorem dX5_mix_4 : decode cX5_mix 4 = .ok (.aload_n 0, 1) := by decide +kernel
theorem dX5_mix_5 : decode cX5_mix 5 = .ok (.getfield 326, 3) := by decide +kernel
theorem dX5_mix_8 : decode cX5_mix 8 = .ok (.lmul, 1) := by decide +kernel
theorem dX5_mix_9 : decode cX5_mix 9 = .ok (.lload_n 1, 1) := by decide +kernel
theorem dX5_mix_10 : decode cX5_mix 10 = .ok (.ladd, 1) := by decide +kernel
theorem dX5_mix_11 : decode cX5_mix 11 = .ok (.putfield 326, 3) := by decide +kernel
theorem dX5_mix_14 : decode cX5_mix 14 = .ok (.return_, 1) := by decide +kernel
theorem dX5_mixVillage_0 : decode cX5_mixVillage 0 = .ok (.iconst 0, 1) := by decide +kernel
theorem dX5_mixVillage_1 : decode cX5_mixVillage 1 = .ok (.istore_n 2, 1) := by decide +kernel
theorem dX5_mixVillage_2 : decode cX5_mixVillage 2 = .ok (.iload_n 2, 1) := by decide +kernel
theorem dX5_mixVillage_3 : decode cX5_mixVillage 3 = .ok (.bipush 8, 2) := by decide +kernel
theorem dX5_mixVillage_5 : decode cX5_mixVillage 5 = .ok (.if_icmp .ge 20, 3) := by decide +kernel
theorem dX5_mixVillage_8 : decode cX5_mixVillage 8 = .ok (.aload_n 0, 1) := by decide +kernel
theorem dX5_mixVillage_9 : decode cX5_mixVillage 9 = .ok (.aload_n 0, 1) := by decide +kernel
theorem dX5_mixVillage_10 : decode cX5_mixVillage 10 = .ok (.iload_n 1, 1) := by decide +kernel
theorem dX5_mixVillage_11 : decode cX5_mixVillage 11 = .ok (.iload_n 2, 1) := by decide +kernel
theorem dX5_mixVillage_12 : decode cX5_mixVillage 12 = .ok (.invokevirtual 198, 3) := by decide +kernel
theorem dX5_mixVillage_15 : decode cX5_mixVillage 15 = .ok (.i2l, 1) := by decide +kernel
theorem dX5_mixVillage_16 : decode cX5_mixVillage 16 = .ok (.invokevirtual 329, 3) := by decide +kernel
theorem dX5_mixVillage_19 : decode cX5_mixVillage 19 = .ok (.iinc 2 1, 3) := by decide +kernel
theorem dX5_mixVillage_22 : decode cX5_mixVillage 22 = .ok (.goto (-20), 3) := by decide +kernel
theorem dX5_mixVillage_25 : decode cX5_mixVillage 25 = .ok (.iconst 0, 1) := by decide +kernel
theorem dX5_mixVillage_26 : decode cX5_mixVillage 26 = .ok (.istore_n 2, 1) := by decide +kernel
theorem dX5_mixVillage_27 : decode cX5_mixVillage 27 = .ok (.iload_n 2, 1) := by decide +kernel
theorem dX5_mixVillage_28 : decode cX5_mixVillage 28 = .ok (.aload_n 0, 1) := by decide +kernel
theorem dX5_mixVillage_29 : decode cX5_mixVillage 29 = .ok (.getfield 134, 3) := by decide +kernel
theorem dX5_mixVillage_32 : decode cX5_mixVillage 32 = .ok (.if_icmp .ge 33, 3) := by decide +kernel
theorem dX5_mixVillage_35 : decode cX5_mixVillage 35 = .ok (.aload_n 0, 1) := by decide +kernel
theorem dX5_mixVillage_36 : decode cX5_mixVillage 36 = .ok (.aload_n 0, 1) := by decide +kernel
theorem dX5_mixVillage_37 : decode cX5_mixVillage 37 = .ok (.iload_n 2, 1) := by decide +kernel
theorem dX5_mixVillage_38 : decode cX5_mixVillage 38 = .ok (.iload_n 1, 1) := by decide +kernel
theorem dX5_mixVillage_39 : decode cX5_mixVillage 39 = .ok (.iconst 0, 1) := by decide +kernel
theorem dX5_mixVillage_40 : decode cX5_mixVillage 40 = .ok (.invokevirtual 224, 3) := by decide +kernel
theorem dX5_mixVillage_43 : decode cX5_mixVillage 43 = .ok (.i2l, 1) := by decide +kernel
theorem dX5_mixVillage_44 : decode cX5_mixVillage 44 = .ok (.invokevirtual 329, 3) := by decide +kernel
theorem dX5_mixVillage_47 : decode cX5_mixVillage 47 = .ok (.aload_n 0, 1) := by decide +kernel
theorem dX5_mixVillage_48 : decode cX5_mixVillage 48 = .ok (.aload_n 0, 1) := by decide +kernel
theorem dX5_mixVillage_49 : decode cX5_mixVillage 49 = .ok (.iload_n 2, 1) := by decide +kernel
theorem dX5_mixVillage_50 : decode cX5_mixVillage 50 = .ok (.iload_n 1, 1) := by decide +kernel
theorem dX5_mixVillage_51 : decode cX5_mixVillage 51 = .ok (.iconst 1, 1) := by decide +kernel
theorem dX5_mixVillage_52 : decode cX5_mixVillage 52 = .ok (.invokevirtual 224, 3) := by decide +kernel
theorem dX5_mixVillage_55 : decode cX5_mixVillage 55 = .ok (.i2l, 1) := by decide +kernel
theorem dX5_mixVillage_56 : decode cX5_mixVillage 56 = .ok (.invokevirtual 329, 3) := by decide +kernel
theorem dX5_mixVillage_59 : decode cX5_mixVillage 59 = .ok (.iinc 2 1, 3) := by decide +kernel
theorem dX5_mixVillage_62 : decode cX5_mixVillage 62 = .ok (.goto (-35), 3) := by decide +kernel
theorem dX5_mixVillage_65 : decode cX5_mixVillage 65 = .ok (.return_, 1) := by decide +kernel
theorem dX5_digest_0 : decode cX5_digest 0 = .ok (.aload_n 0, 1) := by decide +kernel
theorem dX5_digest_1 : decode cX5_digest 1 = .ok (.ldc2_w 333, 3) := by decide +kernel
theorem dX5_digest_4 : decode cX5_digest 4 = .ok (.putfield 326, 3) := by decide +kernel
theorem dX5_digest_7 : decode cX5_digest 7 = .ok (.iconst 0, 1) := by decide +kernel
theorem dX5_digest_8 : decode cX5_digest 8 = .ok (.istore_n 1, 1) := by decide +kernel
theorem dX5_digest_9 : decode cX5_digest 9 = .ok (.iload_n 1, 1) := by decide +kernel
theorem dX5_digest_10 : decode cX5_digest 10 = .ok (.aload_n 0, 1) := by decide +kernel
theorem dX5_digest_11 : decode cX5_digest 11 = .ok (.getfield 134, 3) := by decide +kernel
theorem dX5_digest_14 : decode cX5_digest 14 = .ok (.if_icmp .ge 34, 3) := by decide +kernel
theorem dX5_digest_17 : decode cX5_digest 17 = .ok (.iconst 0, 1) := by decide +kernel
theorem dX5_digest_18 : decode cX5_digest 18 = .ok (.istore_n 2, 1) := by decide +kernel
theorem dX5_digest_19 : decode cX5_digest 19 = .ok (.iload_n 2, 1) := by decide +kernel
theorem dX5_digest_20 : decode cX5_digest 20 = .ok (.bipush 8, 2) := by decide +kernel
theorem dX5_digest_22 : decode cX5_digest 22 = .ok (.if_icmp .ge 20, 3) := by decide +kernel
theorem dX5_digest_25 : decode cX5_digest 25 = .ok (.aload_n 0, 1) := by decide +kernel
theorem dX5_digest_26 : decode cX5_digest 26 = .ok (.aload_n 0, 1) := by decide +kernel
theorem dX5_digest_27 : decode cX5_digest 27 = .ok (.iload_n 1, 1) := by decide +kernel
theorem dX5_digest_28 : decode cX5_digest 28 = .ok (.iload_n 2, 1) := by decide +kernel
theorem dX5_digest_29 : decode cX5_digest 29 = .ok (.invokevirtual 186, 3) := by decide +kernel
theorem dX5_digest_32 : decode cX5_digest 32 = .ok (.i2l, 1) := by decide +kernel
theorem dX5_digest_33 : decode cX5_digest 33 = .ok (.invokevirtual 329, 3) := by decide +kernel
theorem dX5_digest_36 : decode cX5_digest 36 = .ok (.iinc 2 1, 3) := by decide +kernel
theorem dX5_digest_39 : decode cX5_digest 39 = .ok (.goto (-20), 3) := by decide +kernel
theorem dX5_digest_42 : decode cX5_digest 42 = .ok (.iinc 1 1, 3) := by decide +kernel
theorem dX5_digest_45 : decode cX5_digest 45 = .ok (.goto (-36), 3) := by decide +kernel
theorem dX5_digest_48 : decode cX5_digest 48 = .ok (.iconst 0, 1) := by decide +kernel
theorem dX5_digest_49 : decode cX5_digest 49 = .ok (.istore_n 1, 1) := by decide +kernel
theorem dX5_digest_50 : decode cX5_digest 50 = .ok (.iload_n 1, 1) := by decide +kernel
theorem dX5_digest_51 : decode cX5_digest 51 = .ok (.aload_n 0, 1) := by decide +kernel
theorem dX5_digest_52 : decode cX5_digest 52 = .ok (.getfield 131, 3) := by decide +kernel
theorem dX5_digest_55 : decode cX5_digest 55 = .ok (.if_icmp .ge 14, 3) := by decide +kernel
theorem dX5_digest_58 : decode cX5_digest 58 = .ok (.aload_n 0, 1) := by decide +kernel
theorem dX5_digest_59 : decode cX5_digest 59 = .ok (.iload_n 1, 1) := by decide +kernel
theorem dX5_digest_60 : decode cX5_digest 60 = .ok (.invokevirtual 335, 3) := by decide +kernel
theorem dX5_digest_63 : decode cX5_digest 63 = .ok (.iinc 1 1, 3) := by decide +kernel
theorem dX5_digest_66 : decode cX5_digest 66 = .ok (.goto (-16), 3) := by decide +kernel
theorem dX5_digest_69 : decode cX5_digest 69 = .ok (.aload_n 0, 1) := by decide +kernel
theorem dX5_digest_70 : decode cX5_digest 70 = .ok (.getfield 131, 3) := by decide +kernel
theorem dX5_digest_73 : decode cX5_digest 73 = .ok (.ifCond .le 34, 3) := by decide +kernel
theorem dX5_digest_76 : decode cX5_digest 76 = .ok (.aload_n 0, 1) := by decide +kernel
theorem dX5_digest_77 : decode cX5_digest 77 = .ok (.aload_n 0, 1) := by decide +kernel
theorem dX5_digest_78 : decode cX5_digest 78 = .ok (.invokevirtual 262, 3) := by decide +kernel
theorem dX5_digest_81 : decode cX5_digest 81 = .ok (.i2l, 1) := by decide +kernel
theorem dX5_digest_82 : decode cX5_digest 82 = .ok (.invokevirtual 329, 3) := by decide +kernel
theorem dX5_digest_85 : decode cX5_digest 85 = .ok (.aload_n 0, 1) := by decide +kernel
theorem dX5_digest_86 : decode cX5_digest 86 = .ok (.aload_n 0, 1) := by decide +kernel
theorem dX5_digest_87 : decode cX5_digest 87 = .ok (.iconst 3, 1) := by decide +kernel
theorem dX5_digest_88 : decode cX5_digest 88 = .ok (.iconst 0, 1) := by decide +kernel
theorem dX5_digest_89 : decode cX5_digest 89 = .ok (.invokevirtual 271, 3) := by decide +kernel
theorem dX5_digest_92 : decode cX5_digest 92 = .ok (.i2l, 1) := by decide +kernel
theorem dX5_digest_93 : decode cX5_digest 93 = .ok (.invokevirtual 329, 3) := by decide +kernel
theorem dX5_digest_96 : decode cX5_digest 96 = .ok (.aload_n 0, 1) := by decide +kernel
theorem dX5_digest_97 : decode cX5_digest 97 = .ok (.aload_n 0, 1) := by decide +kernel
theorem dX5_digest_98 : decode cX5_digest 98 = .ok (.iconst 3, 1) := by decide +kernel
theorem dX5_digest_99 : decode cX5_digest 99 = .ok (.iconst 1, 1) := by decide +kernel
theorem dX5_digest_100 : decode cX5_digest 100 = .ok (.invokevirtual 271, 3) := by decide +kernel
theorem dX5_digest_103 : decode cX5_digest 103 = .ok (.i2l, 1) := by decide +kernel
theorem dX5_digest_104 : decode cX5_digest 104 = .ok (.invokevirtual 329, 3) := by decide +kernel
theorem dX5_digest_107 : decode cX5_digest 107 = .ok (.iconst 0, 1) := by decide +kernel
theorem dX5_digest_108 : decode cX5_digest 108 = .ok (.istore_n 1, 1) := by decide +kernel
theorem dX5_digest_109 : decode cX5_digest 109 = .ok (.iload_n 1, 1) := by decide +kernel
theorem dX5_digest_110 : decode cX5_digest 110 = .ok (.aload_n 0, 1) := by decide +kernel
theorem dX5_digest_111 : decode cX5_digest 111 = .ok (.getfield 100, 3) := by decide +kernel
theorem dX5_digest_114 : decode cX5_digest 114 = .ok (.if_icmp .ge 20, 3) := by decide +kernel
theorem dX5_digest_117 : decode cX5_digest 117 = .ok (.aload_n 0, 1) := by decide +kernel
theorem dX5_digest_118 : decode cX5_digest 118 = .ok (.aload_n 0, 1) := by decide +kernel
theorem dX5_digest_119 : decode cX5_digest 119 = .ok (.getfield 40, 3) := by decide +kernel
theorem dX5_digest_122 : decode cX5_digest 122 = .ok (.iload_n 1, 1) := by decide +kernel
theorem dX5_digest_123 : decode cX5_digest 123 = .ok (.baload, 1) := by decide +kernel
theorem dX5_digest_124 : decode cX5_digest 124 = .ok (.i2l, 1) := by decide +kernel
theorem dX5_digest_125 : decode cX5_digest 125 = .ok (.invokevirtual 329, 3) := by decide +kernel
theorem dX5_digest_128 : decode cX5_digest 128 = .ok (.iinc 1 1, 3) := by decide +kernel
theorem dX5_digest_131 : decode cX5_digest 131 = .ok (.goto (-22), 3) := by decide +kernel
theorem dX5_digest_134 : decode cX5_digest 134 = .ok (.iconst 0, 1) := by decide +kernel
theorem dX5_digest_135 : decode cX5_digest 135 = .ok (.istore_n 1, 1) := by decide +kernel
theorem dX5_digest_136 : decode cX5_digest 136 = .ok (.iload_n 1, 1) := by decide +kernel
theorem dX5_digest_137 : decode cX5_digest 137 = .ok (.bipush 12, 2) := by decide +kernel
theorem dX5_digest_139 : decode cX5_digest 139 = .ok (.if_icmp .ge 19, 3) := by decide +kernel
theorem dX5_digest_142 : decode cX5_digest 142 = .ok (.aload_n 0, 1) := by decide +kernel
theorem dX5_digest_143 : decode cX5_digest 143 = .ok (.aload_n 0, 1) := by decide +kernel
theorem dX5_digest_144 : decode cX5_digest 144 = .ok (.iload_n 1, 1) := by decide +kernel
theorem dX5_digest_145 : decode cX5_digest 145 = .ok (.invokevirtual 321, 3) := by decide +kernel
theorem dX5_digest_148 : decode cX5_digest 148 = .ok (.i2l, 1) := by decide +kernel
theorem dX5_digest_149 : decode cX5_digest 149 = .ok (.invokevirtual 329, 3) := by decide +kernel
theorem dX5_digest_152 : decode cX5_digest 152 = .ok (.iinc 1 1, 3) := by decide +kernel
theorem dX5_digest_155 : decode cX5_digest 155 = .ok (.goto (-19), 3) := by decide +kernel
theorem dX5_digest_158 : decode cX5_digest 158 = .ok (.aload_n 0, 1) := by decide +kernel
theorem dX5_digest_159 : decode cX5_digest 159 = .ok (.getfield 326, 3) := by decide +kernel
theorem dX5_digest_162 : decode cX5_digest 162 = .ok (.lreturn, 1) := by decide +kernel
theorem dJ11_isValidCodePoint_9a6ad_0 : decode cJ11_isValidCodePoint_9a6ad 0 = .ok (.iload_n 0, 1) := by decide +kernel
theorem dJ11_isValidCodePoint_9a6ad_1 : decode cJ11_isValidCodePoint_9a6ad 1 = .ok (.bipush 16, 2) := by decide +kernel
theorem dJ11_isValidCodePoint_9a6ad_3 : decode cJ11_isValidCodePoint_9a6ad 3 = .ok (.iushr, 1) := by decide +kernel
theorem dJ11_isValidCodePoint_9a6ad_4 : decode cJ11_isValidCodePoint_9a6ad 4 = .ok (.istore_n 1, 1) := by decide +kernel
theorem dJ11_isValidCodePoint_9a6ad_5 : decode cJ11_isValidCodePoint_9a6ad 5 = .ok (.iload_n 1, 1) := by decide +kernel
theorem dJ11_isValidCodePoint_9a6ad_6 : decode cJ11_isValidCodePoint_9a6ad 6 = .ok (.bipush 17, 2) := by decide +kernel
theorem dJ11_isValidCodePoint_9a6ad_8 : decode cJ11_isValidCodePoint_9a6ad 8 = .ok (.if_icmp .ge 7, 3) := by decide +kernel
theorem dJ11_isValidCodePoint_9a6ad_11 : decode cJ11_isValidCodePoint_9a6ad 11 = .ok (.iconst 1, 1) := by decide +kernel
theorem dJ11_isValidCodePoint_9a6ad_12 : decode cJ11_isValidCodePoint_9a6ad 12 = .ok (.goto 4, 3) := by decide +kernel
theorem dJ11_isValidCodePoint_9a6ad_15 : decode cJ11_isValidCodePoint_9a6ad 15 = .ok (.iconst 0, 1) := by decide +kernel
theorem dJ11_isValidCodePoint_9a6ad_16 : decode cJ11_isValidCodePoint_9a6ad 16 = .ok (.ireturn, 1) := by decide +kernel
theorem dJ11_highSurrogate_5068e_0 : decode cJ11_highSurrogate_5068e 0 = .ok (.iload_n 0, 1) := by decide +kernel
theorem dJ11_highSurrogate_5068e_1 : decode cJ11_highSurrogate_5068e 1 = .ok (.bipush 10, 2) := by decide +kernel
theorem dJ11_highSurrogate_5068e_3 : decode cJ11_highSurrogate_5068e 3 = .ok (.iushr, 1) := by decide +kernel
theorem dJ11_highSurrogate_5068e_4 : decode cJ11_highSurrogate_5068e 4 = .ok (.ldc 110, 2) := by decide +kernel
theorem dJ11_highSurrogate_5068e_6 : decode cJ11_highSurrogate_5068e 6 = .ok (.iadd, 1) := by decide +kernel
theorem dJ11_highSurrogate_5068e_7 : decode cJ11_highSurrogate_5068e 7 = .ok (.i2c, 1) := by decide +kernel
theorem dJ11_highSurrogate_5068e_8 : decode cJ11_highSurrogate_5068e 8 = .ok (.ireturn, 1) := by decide +kernel
theorem dJ11_lowSurrogate_5068e_0 : decode cJ11_lowSurrogate_5068e 0 = .ok (.iload_n 0, 1) := by decide +kernel
theorem dJ11_lowSurrogate_5068e_1 : decode cJ11_lowSurrogate_5068e 1 = .ok (.sipush 1023, 3) := by decide +kernel
theorem dJ11_lowSurrogate_5068e_4 : decode cJ11_lowSurrogate_5068e 4 = .ok (.iand, 1) := by decide +kernel
theorem dJ11_lowSurrogate_5068e_5 : decode cJ11_lowSurrogate_5068e 5 = .ok (.ldc 76, 2) := by decide +kernel
theorem dJ11_lowSurrogate_5068e_7 : decode cJ11_lowSurrogate_5068e 7 = .ok (.iadd, 1) := by decide +kernel
theorem dJ11_lowSurrogate_5068e_8 : decode cJ11_lowSurrogate_5068e 8 = .ok (.i2c, 1) := by decide +kernel
theorem dJ11_lowSurrogate_5068e_9 : decode cJ11_lowSurrogate_5068e 9 = .ok (.ireturn, 1) := by decide +kernel
theorem dJ6_bitCount_0f7a4_0 : decode cJ6_bitCount_0f7a4 0 = .ok (.iload_n 0, 1) := by decide +kernel
theorem dJ6_bitCount_0f7a4_1 : decode cJ6_bitCount_0f7a4 1 = .ok (.iload_n 0, 1) := by decide +kernel
theorem dJ6_bitCount_0f7a4_2 : decode cJ6_bitCount_0f7a4 2 = .ok (.iconst 1, 1) := by decide +kernel
theorem dJ6_bitCount_0f7a4_3 : decode cJ6_bitCount_0f7a4 3 = .ok (.iushr, 1) := by decide +kernel
theorem dJ6_bitCount_0f7a4_4 : decode cJ6_bitCount_0f7a4 4 = .ok (.ldc_w 265, 3) := by decide +kernel
theorem dJ6_bitCount_0f7a4_7 : decode cJ6_bitCount_0f7a4 7 = .ok (.iand, 1) := by decide +kernel
theorem dJ6_bitCount_0f7a4_8 : decode cJ6_bitCount_0f7a4 8 = .ok (.isub, 1) := by decide +kernel
theorem dJ6_bitCount_0f7a4_9 : decode cJ6_bitCount_0f7a4 9 = .ok (.istore_n 0, 1) := by decide +kernel
theorem dJ6_bitCount_0f7a4_10 : decode cJ6_bitCount_0f7a4 10 = .ok (.iload_n 0, 1) := by decide +kernel
theorem dJ6_bitCount_0f7a4_11 : decode cJ6_bitCount_0f7a4 11 = .ok (.ldc_w 266, 3) := by decide +kernel
theorem dJ6_bitCount_0f7a4_14 : decode cJ6_bitCount_0f7a4 14 = .ok (.iand, 1) := by decide +kernel
theorem dJ6_bitCount_0f7a4_15 : decode cJ6_bitCount_0f7a4 15 = .ok (.iload_n 0, 1) := by decide +kernel
theorem dJ6_bitCount_0f7a4_16 : decode cJ6_bitCount_0f7a4 16 = .ok (.iconst 2, 1) := by decide +kernel
theorem dJ6_bitCount_0f7a4_17 : decode cJ6_bitCount_0f7a4 17 = .ok (.iushr, 1) := by decide +kernel
theorem dJ6_bitCount_0f7a4_18 : decode cJ6_bitCount_0f7a4 18 = .ok (.ldc_w 266, 3) := by decide +kernel
theorem dJ6_bitCount_0f7a4_21 : decode cJ6_bitCount_0f7a4 21 = .ok (.iand, 1) := by decide +kernel
theorem dJ6_bitCount_0f7a4_22 : decode cJ6_bitCount_0f7a4 22 = .ok (.iadd, 1) := by decide +kernel
theorem dJ6_bitCount_0f7a4_23 : decode cJ6_bitCount_0f7a4 23 = .ok (.istore_n 0, 1) := by decide +kernel
theorem dJ6_bitCount_0f7a4_24 : decode cJ6_bitCount_0f7a4 24 = .ok (.iload_n 0, 1) := by decide +kernel
theorem dJ6_bitCount_0f7a4_25 : decode cJ6_bitCount_0f7a4 25 = .ok (.iload_n 0, 1) := by decide +kernel
theorem dJ6_bitCount_0f7a4_26 : decode cJ6_bitCount_0f7a4 26 = .ok (.iconst 4, 1) := by decide +kernel
theorem dJ6_bitCount_0f7a4_27 : decode cJ6_bitCount_0f7a4 27 = .ok (.iushr, 1) := by decide +kernel
