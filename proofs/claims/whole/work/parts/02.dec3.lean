theorem dX5_wouldLift_1 : decode cX5_wouldLift 1 = .ok (.iload_n 1, 1) := by decide +kernel
theorem dX5_wouldLift_2 : decode cX5_wouldLift 2 = .ok (.iload_n 2, 1) := by decide +kernel
theorem dX5_wouldLift_3 : decode cX5_wouldLift 3 = .ok (.invokevirtual 159, 3) := by decide +kernel
theorem dX5_wouldLift_6 : decode cX5_wouldLift 6 = .ok (.iconst 5, 1) := by decide +kernel
theorem dX5_wouldLift_7 : decode cX5_wouldLift 7 = .ok (.iload_n 3, 1) := by decide +kernel
theorem dX5_wouldLift_8 : decode cX5_wouldLift 8 = .ok (.imul, 1) := by decide +kernel
theorem dX5_wouldLift_9 : decode cX5_wouldLift 9 = .ok (.if_icmp .ge 7, 3) := by decide +kernel
theorem dX5_wouldLift_12 : decode cX5_wouldLift 12 = .ok (.iconst 1, 1) := by decide +kernel
theorem dX5_wouldLift_13 : decode cX5_wouldLift 13 = .ok (.goto 4, 3) := by decide +kernel
theorem dX5_wouldLift_16 : decode cX5_wouldLift 16 = .ok (.iconst 0, 1) := by decide +kernel
theorem dX5_wouldLift_17 : decode cX5_wouldLift 17 = .ok (.ireturn, 1) := by decide +kernel
theorem dX5_there_0 : decode cX5_there 0 = .ok (.iconst 0, 1) := by decide +kernel
theorem dX5_there_1 : decode cX5_there 1 = .ok (.istore_n 2, 1) := by decide +kernel
theorem dX5_there_2 : decode cX5_there 2 = .ok (.iconst 0, 1) := by decide +kernel
theorem dX5_there_3 : decode cX5_there 3 = .ok (.istore_n 3, 1) := by decide +kernel
theorem dX5_there_4 : decode cX5_there 4 = .ok (.iload_n 3, 1) := by decide +kernel
theorem dX5_there_5 : decode cX5_there 5 = .ok (.aload_n 0, 1) := by decide +kernel
theorem dX5_there_6 : decode cX5_there 6 = .ok (.getfield 134, 3) := by decide +kernel
theorem dX5_there_9 : decode cX5_there 9 = .ok (.if_icmp .ge 29, 3) := by decide +kernel
theorem dX5_there_12 : decode cX5_there 12 = .ok (.iload_n 2, 1) := by decide +kernel
theorem dX5_there_13 : decode cX5_there 13 = .ok (.aload_n 0, 1) := by decide +kernel
theorem dX5_there_14 : decode cX5_there 14 = .ok (.getfield 19, 3) := by decide +kernel
theorem dX5_there_17 : decode cX5_there 17 = .ok (.iload_n 3, 1) := by decide +kernel
theorem dX5_there_18 : decode cX5_there 18 = .ok (.iaload, 1) := by decide +kernel
theorem dX5_there_19 : decode cX5_there 19 = .ok (.iload_n 1, 1) := by decide +kernel
theorem dX5_there_20 : decode cX5_there 20 = .ok (.if_icmp .ne 9, 3) := by decide +kernel
theorem dX5_there_23 : decode cX5_there 23 = .ok (.iconst 1, 1) := by decide +kernel
theorem dX5_there_24 : decode cX5_there 24 = .ok (.iload_n 3, 1) := by decide +kernel
theorem dX5_there_25 : decode cX5_there 25 = .ok (.ishl, 1) := by decide +kernel
theorem dX5_there_26 : decode cX5_there 26 = .ok (.goto 4, 3) := by decide +kernel
theorem dX5_there_29 : decode cX5_there 29 = .ok (.iconst 0, 1) := by decide +kernel
theorem dX5_there_30 : decode cX5_there 30 = .ok (.ior, 1) := by decide +kernel
theorem dX5_there_31 : decode cX5_there 31 = .ok (.istore_n 2, 1) := by decide +kernel
theorem dX5_there_32 : decode cX5_there 32 = .ok (.iinc 3 1, 3) := by decide +kernel
theorem dX5_there_35 : decode cX5_there 35 = .ok (.goto (-31), 3) := by decide +kernel
theorem dX5_there_38 : decode cX5_there 38 = .ok (.iload_n 2, 1) := by decide +kernel
theorem dX5_there_39 : decode cX5_there 39 = .ok (.ireturn, 1) := by decide +kernel
theorem dX5_ouncesIn_0 : decode cX5_ouncesIn 0 = .ok (.iconst 0, 1) := by decide +kernel
theorem dX5_ouncesIn_1 : decode cX5_ouncesIn 1 = .ok (.istore_n 2, 1) := by decide +kernel
theorem dX5_ouncesIn_2 : decode cX5_ouncesIn 2 = .ok (.iconst 0, 1) := by decide +kernel
theorem dX5_ouncesIn_3 : decode cX5_ouncesIn 3 = .ok (.istore_n 3, 1) := by decide +kernel
theorem dX5_ouncesIn_4 : decode cX5_ouncesIn 4 = .ok (.iload_n 3, 1) := by decide +kernel
theorem dX5_ouncesIn_5 : decode cX5_ouncesIn 5 = .ok (.aload_n 0, 1) := by decide +kernel
theorem dX5_ouncesIn_6 : decode cX5_ouncesIn 6 = .ok (.getfield 134, 3) := by decide +kernel
theorem dX5_ouncesIn_9 : decode cX5_ouncesIn 9 = .ok (.if_icmp .ge 30, 3) := by decide +kernel
theorem dX5_ouncesIn_12 : decode cX5_ouncesIn 12 = .ok (.iload_n 2, 1) := by decide +kernel
theorem dX5_ouncesIn_13 : decode cX5_ouncesIn 13 = .ok (.iload_n 1, 1) := by decide +kernel
theorem dX5_ouncesIn_14 : decode cX5_ouncesIn 14 = .ok (.iload_n 3, 1) := by decide +kernel
theorem dX5_ouncesIn_15 : decode cX5_ouncesIn 15 = .ok (.invokestatic 172, 3) := by decide +kernel
theorem dX5_ouncesIn_18 : decode cX5_ouncesIn 18 = .ok (.ifCond .eq 12, 3) := by decide +kernel
theorem dX5_ouncesIn_21 : decode cX5_ouncesIn 21 = .ok (.aload_n 0, 1) := by decide +kernel
theorem dX5_ouncesIn_22 : decode cX5_ouncesIn 22 = .ok (.getfield 16, 3) := by decide +kernel
theorem dX5_ouncesIn_25 : decode cX5_ouncesIn 25 = .ok (.iload_n 3, 1) := by decide +kernel
theorem dX5_ouncesIn_26 : decode cX5_ouncesIn 26 = .ok (.iaload, 1) := by decide +kernel
theorem dX5_ouncesIn_27 : decode cX5_ouncesIn 27 = .ok (.goto 4, 3) := by decide +kernel
theorem dX5_ouncesIn_30 : decode cX5_ouncesIn 30 = .ok (.iconst 0, 1) := by decide +kernel
theorem dX5_ouncesIn_31 : decode cX5_ouncesIn 31 = .ok (.iadd, 1) := by decide +kernel
theorem dX5_ouncesIn_32 : decode cX5_ouncesIn 32 = .ok (.istore_n 2, 1) := by decide +kernel
theorem dX5_ouncesIn_33 : decode cX5_ouncesIn 33 = .ok (.iinc 3 1, 3) := by decide +kernel
theorem dX5_ouncesIn_36 : decode cX5_ouncesIn 36 = .ok (.goto (-32), 3) := by decide +kernel
theorem dX5_ouncesIn_39 : decode cX5_ouncesIn 39 = .ok (.iload_n 2, 1) := by decide +kernel
theorem dX5_ouncesIn_40 : decode cX5_ouncesIn 40 = .ok (.ireturn, 1) := by decide +kernel
theorem dX5_weightNow_0 : decode cX5_weightNow 0 = .ok (.iload_n 2, 1) := by decide +kernel
theorem dX5_weightNow_1 : decode cX5_weightNow 1 = .ok (.tableswitch 104 0 6 #[43, 50, 57, 64, 71, 77, 98], 43) := by decide +kernel
theorem dX5_weightNow_44 : decode cX5_weightNow 44 = .ok (.aload_n 0, 1) := by decide +kernel
theorem dX5_weightNow_45 : decode cX5_weightNow 45 = .ok (.getfield 13, 3) := by decide +kernel
theorem dX5_weightNow_48 : decode cX5_weightNow 48 = .ok (.iload_n 1, 1) := by decide +kernel
theorem dX5_weightNow_49 : decode cX5_weightNow 49 = .ok (.iaload, 1) := by decide +kernel
theorem dX5_weightNow_50 : decode cX5_weightNow 50 = .ok (.ireturn, 1) := by decide +kernel
theorem dX5_weightNow_51 : decode cX5_weightNow 51 = .ok (.aload_n 0, 1) := by decide +kernel
theorem dX5_weightNow_52 : decode cX5_weightNow 52 = .ok (.getfield 16, 3) := by decide +kernel
theorem dX5_weightNow_55 : decode cX5_weightNow 55 = .ok (.iload_n 1, 1) := by decide +kernel
theorem dX5_weightNow_56 : decode cX5_weightNow 56 = .ok (.iaload, 1) := by decide +kernel
theorem dX5_weightNow_57 : decode cX5_weightNow 57 = .ok (.ireturn, 1) := by decide +kernel
theorem dX5_weightNow_58 : decode cX5_weightNow 58 = .ok (.aload_n 0, 1) := by decide +kernel
theorem dX5_weightNow_59 : decode cX5_weightNow 59 = .ok (.getfield 19, 3) := by decide +kernel
theorem dX5_weightNow_62 : decode cX5_weightNow 62 = .ok (.iload_n 1, 1) := by decide +kernel
theorem dX5_weightNow_63 : decode cX5_weightNow 63 = .ok (.iaload, 1) := by decide +kernel
theorem dX5_weightNow_64 : decode cX5_weightNow 64 = .ok (.ireturn, 1) := by decide +kernel
theorem dX5_weightNow_65 : decode cX5_weightNow 65 = .ok (.aload_n 0, 1) := by decide +kernel
theorem dX5_weightNow_66 : decode cX5_weightNow 66 = .ok (.getfield 22, 3) := by decide +kernel
theorem dX5_weightNow_69 : decode cX5_weightNow 69 = .ok (.iload_n 1, 1) := by decide +kernel
theorem dX5_weightNow_70 : decode cX5_weightNow 70 = .ok (.iaload, 1) := by decide +kernel
theorem dX5_weightNow_71 : decode cX5_weightNow 71 = .ok (.ireturn, 1) := by decide +kernel
theorem dX5_weightNow_72 : decode cX5_weightNow 72 = .ok (.aload_n 0, 1) := by decide +kernel
theorem dX5_weightNow_73 : decode cX5_weightNow 73 = .ok (.iload_n 1, 1) := by decide +kernel
theorem dX5_weightNow_74 : decode cX5_weightNow 74 = .ok (.invokevirtual 152, 3) := by decide +kernel
theorem dX5_weightNow_77 : decode cX5_weightNow 77 = .ok (.ireturn, 1) := by decide +kernel
theorem dX5_weightNow_78 : decode cX5_weightNow 78 = .ok (.aload_n 0, 1) := by decide +kernel
theorem dX5_weightNow_79 : decode cX5_weightNow 79 = .ok (.getfield 13, 3) := by decide +kernel
theorem dX5_weightNow_82 : decode cX5_weightNow 82 = .ok (.iload_n 1, 1) := by decide +kernel
theorem dX5_weightNow_83 : decode cX5_weightNow 83 = .ok (.iaload, 1) := by decide +kernel
theorem dX5_weightNow_84 : decode cX5_weightNow 84 = .ok (.iconst 3, 1) := by decide +kernel
theorem dX5_weightNow_85 : decode cX5_weightNow 85 = .ok (.if_icmp .ne 12, 3) := by decide +kernel
theorem dX5_weightNow_88 : decode cX5_weightNow 88 = .ok (.aload_n 0, 1) := by decide +kernel
theorem dX5_weightNow_89 : decode cX5_weightNow 89 = .ok (.getfield 25, 3) := by decide +kernel
theorem dX5_weightNow_92 : decode cX5_weightNow 92 = .ok (.iload_n 1, 1) := by decide +kernel
theorem dX5_weightNow_93 : decode cX5_weightNow 93 = .ok (.iaload, 1) := by decide +kernel
theorem dX5_weightNow_94 : decode cX5_weightNow 94 = .ok (.goto 4, 3) := by decide +kernel
theorem dX5_weightNow_97 : decode cX5_weightNow 97 = .ok (.iconst 0, 1) := by decide +kernel
theorem dX5_weightNow_98 : decode cX5_weightNow 98 = .ok (.ireturn, 1) := by decide +kernel
theorem dX5_weightNow_99 : decode cX5_weightNow 99 = .ok (.aload_n 0, 1) := by decide +kernel
theorem dX5_weightNow_100 : decode cX5_weightNow 100 = .ok (.iload_n 1, 1) := by decide +kernel
theorem dX5_weightNow_101 : decode cX5_weightNow 101 = .ok (.invokevirtual 176, 3) := by decide +kernel
theorem dX5_weightNow_104 : decode cX5_weightNow 104 = .ok (.ireturn, 1) := by decide +kernel
theorem dX5_weightNow_105 : decode cX5_weightNow 105 = .ok (.aload_n 0, 1) := by decide +kernel
theorem dX5_weightNow_106 : decode cX5_weightNow 106 = .ok (.iload_n 1, 1) := by decide +kernel
theorem dX5_weightNow_107 : decode cX5_weightNow 107 = .ok (.invokevirtual 179, 3) := by decide +kernel
theorem dX5_weightNow_110 : decode cX5_weightNow 110 = .ok (.ireturn, 1) := by decide +kernel
theorem dX5_weight_0 : decode cX5_weight 0 = .ok (.aload_n 0, 1) := by decide +kernel
theorem dX5_weight_1 : decode cX5_weight 1 = .ok (.iload_n 1, 1) := by decide +kernel
theorem dX5_weight_2 : decode cX5_weight 2 = .ok (.invokevirtual 182, 3) := by decide +kernel
theorem dX5_weight_5 : decode cX5_weight 5 = .ok (.ifCond .ne 8, 3) := by decide +kernel
theorem dX5_weight_8 : decode cX5_weight 8 = .ok (.bipush (-101), 2) := by decide +kernel
theorem dX5_weight_10 : decode cX5_weight 10 = .ok (.goto 24, 3) := by decide +kernel
theorem dX5_weight_13 : decode cX5_weight 13 = .ok (.iload_n 2, 1) := by decide +kernel
theorem dX5_weight_14 : decode cX5_weight 14 = .ok (.iconst 0, 1) := by decide +kernel
theorem dX5_weight_15 : decode cX5_weight 15 = .ok (.bipush 7, 2) := by decide +kernel
theorem dX5_weight_17 : decode cX5_weight 17 = .ok (.invokestatic 96, 3) := by decide +kernel
theorem dX5_weight_20 : decode cX5_weight 20 = .ok (.ifCond .eq 12, 3) := by decide +kernel
theorem dX5_weight_23 : decode cX5_weight 23 = .ok (.aload_n 0, 1) := by decide +kernel
theorem dX5_weight_24 : decode cX5_weight 24 = .ok (.iload_n 1, 1) := by decide +kernel
theorem dX5_weight_25 : decode cX5_weight 25 = .ok (.iload_n 2, 1) := by decide +kernel
theorem dX5_weight_26 : decode cX5_weight 26 = .ok (.invokevirtual 186, 3) := by decide +kernel
theorem dX5_weight_29 : decode cX5_weight 29 = .ok (.goto 5, 3) := by decide +kernel
theorem dX5_weight_32 : decode cX5_weight 32 = .ok (.bipush (-102), 2) := by decide +kernel
theorem dX5_weight_34 : decode cX5_weight 34 = .ok (.ireturn, 1) := by decide +kernel
theorem dX5_as_0 : decode cX5_as 0 = .ok (.aload_n 0, 1) := by decide +kernel
theorem dX5_as_1 : decode cX5_as 1 = .ok (.iload_n 1, 1) := by decide +kernel
theorem dX5_as_2 : decode cX5_as 2 = .ok (.invokevirtual 182, 3) := by decide +kernel
theorem dX5_as_5 : decode cX5_as 5 = .ok (.ifCond .ne 6, 3) := by decide +kernel
theorem dX5_as_8 : decode cX5_as 8 = .ok (.bipush (-101), 2) := by decide +kernel
theorem dX5_as_10 : decode cX5_as 10 = .ok (.ireturn, 1) := by decide +kernel
theorem dX5_as_11 : decode cX5_as 11 = .ok (.iload_n 2, 1) := by decide +kernel
theorem dX5_as_12 : decode cX5_as 12 = .ok (.iconst 0, 1) := by decide +kernel
theorem dX5_as_13 : decode cX5_as 13 = .ok (.iconst 4, 1) := by decide +kernel
theorem dX5_as_14 : decode cX5_as 14 = .ok (.invokestatic 96, 3) := by decide +kernel
theorem dX5_as_17 : decode cX5_as 17 = .ok (.ifCond .ne 6, 3) := by decide +kernel
theorem dX5_as_20 : decode cX5_as 20 = .ok (.bipush (-102), 2) := by decide +kernel
theorem dX5_as_22 : decode cX5_as 22 = .ok (.ireturn, 1) := by decide +kernel
theorem dX5_as_23 : decode cX5_as 23 = .ok (.aload_n 0, 1) := by decide +kernel
theorem dX5_as_24 : decode cX5_as 24 = .ok (.getfield 13, 3) := by decide +kernel
theorem dX5_as_27 : decode cX5_as 27 = .ok (.iload_n 1, 1) := by decide +kernel
theorem dX5_as_28 : decode cX5_as 28 = .ok (.iaload, 1) := by decide +kernel
theorem dX5_as_29 : decode cX5_as 29 = .ok (.istore_n 3, 1) := by decide +kernel
theorem dX5_as_30 : decode cX5_as 30 = .ok (.iload_n 2, 1) := by decide +kernel
theorem dX5_as_31 : decode cX5_as 31 = .ok (.ifCond .eq 18, 3) := by decide +kernel
theorem dX5_as_34 : decode cX5_as 34 = .ok (.iload_n 3, 1) := by decide +kernel
theorem dX5_as_35 : decode cX5_as 35 = .ok (.iload_n 2, 1) := by decide +kernel
theorem dX5_as_36 : decode cX5_as 36 = .ok (.if_icmp .eq 13, 3) := by decide +kernel
theorem dX5_as_39 : decode cX5_as 39 = .ok (.iload_n 2, 1) := by decide +kernel
theorem dX5_as_40 : decode cX5_as 40 = .ok (.iconst 1, 1) := by decide +kernel
theorem dX5_as_41 : decode cX5_as 41 = .ok (.if_icmp .ne 12, 3) := by decide +kernel
theorem dX5_as_44 : decode cX5_as 44 = .ok (.iload_n 3, 1) := by decide +kernel
theorem dX5_as_45 : decode cX5_as 45 = .ok (.iconst 4, 1) := by decide +kernel
theorem dX5_as_46 : decode cX5_as 46 = .ok (.if_icmp .ne 7, 3) := by decide +kernel
theorem dX5_as_49 : decode cX5_as 49 = .ok (.iload_n 1, 1) := by decide +kernel
theorem dX5_as_50 : decode cX5_as 50 = .ok (.goto 4, 3) := by decide +kernel
theorem dX5_as_53 : decode cX5_as 53 = .ok (.iconst (-1), 1) := by decide +kernel
theorem dX5_as_54 : decode cX5_as 54 = .ok (.ireturn, 1) := by decide +kernel
theorem dX5_villageNow_0 : decode cX5_villageNow 0 = .ok (.iload_n 2, 1) := by decide +kernel
theorem dX5_villageNow_1 : decode cX5_villageNow 1 = .ok (.tableswitch 90 0 6 #[43, 50, 57, 64, 71, 78, 84], 43) := by decide +kernel
theorem dX5_villageNow_44 : decode cX5_villageNow 44 = .ok (.aload_n 0, 1) := by decide +kernel
theorem dX5_villageNow_45 : decode cX5_villageNow 45 = .ok (.getfield 7, 3) := by decide +kernel
theorem dX5_villageNow_48 : decode cX5_villageNow 48 = .ok (.iload_n 1, 1) := by decide +kernel
theorem dX5_villageNow_49 : decode cX5_villageNow 49 = .ok (.iaload, 1) := by decide +kernel
theorem dX5_villageNow_50 : decode cX5_villageNow 50 = .ok (.ireturn, 1) := by decide +kernel
theorem dX5_villageNow_51 : decode cX5_villageNow 51 = .ok (.aload_n 0, 1) := by decide +kernel
theorem dX5_villageNow_52 : decode cX5_villageNow 52 = .ok (.iload_n 1, 1) := by decide +kernel
theorem dX5_villageNow_53 : decode cX5_villageNow 53 = .ok (.iconst 0, 1) := by decide +kernel
theorem dX5_villageNow_54 : decode cX5_villageNow 54 = .ok (.invokevirtual 159, 3) := by decide +kernel
theorem dX5_villageNow_57 : decode cX5_villageNow 57 = .ok (.ireturn, 1) := by decide +kernel
theorem dX5_villageNow_58 : decode cX5_villageNow 58 = .ok (.aload_n 0, 1) := by decide +kernel
theorem dX5_villageNow_59 : decode cX5_villageNow 59 = .ok (.iload_n 1, 1) := by decide +kernel
theorem dX5_villageNow_60 : decode cX5_villageNow 60 = .ok (.iconst 1, 1) := by decide +kernel
theorem dX5_villageNow_61 : decode cX5_villageNow 61 = .ok (.invokevirtual 159, 3) := by decide +kernel
theorem dX5_villageNow_64 : decode cX5_villageNow 64 = .ok (.ireturn, 1) := by decide +kernel
theorem dX5_villageNow_65 : decode cX5_villageNow 65 = .ok (.aload_n 0, 1) := by decide +kernel
theorem dX5_villageNow_66 : decode cX5_villageNow 66 = .ok (.iload_n 1, 1) := by decide +kernel
theorem dX5_villageNow_67 : decode cX5_villageNow 67 = .ok (.iconst 0, 1) := by decide +kernel
theorem dX5_villageNow_68 : decode cX5_villageNow 68 = .ok (.invokevirtual 165, 3) := by decide +kernel
theorem dX5_villageNow_71 : decode cX5_villageNow 71 = .ok (.ireturn, 1) := by decide +kernel
theorem dX5_villageNow_72 : decode cX5_villageNow 72 = .ok (.aload_n 0, 1) := by decide +kernel
theorem dX5_villageNow_73 : decode cX5_villageNow 73 = .ok (.iload_n 1, 1) := by decide +kernel
theorem dX5_villageNow_74 : decode cX5_villageNow 74 = .ok (.iconst 1, 1) := by decide +kernel
theorem dX5_villageNow_75 : decode cX5_villageNow 75 = .ok (.invokevirtual 165, 3) := by decide +kernel
theorem dX5_villageNow_78 : decode cX5_villageNow 78 = .ok (.ireturn, 1) := by decide +kernel
theorem dX5_villageNow_79 : decode cX5_villageNow 79 = .ok (.aload_n 0, 1) := by decide +kernel
theorem dX5_villageNow_80 : decode cX5_villageNow 80 = .ok (.iload_n 1, 1) := by decide +kernel
theorem dX5_villageNow_81 : decode cX5_villageNow 81 = .ok (.invokevirtual 169, 3) := by decide +kernel
theorem dX5_villageNow_84 : decode cX5_villageNow 84 = .ok (.ireturn, 1) := by decide +kernel
theorem dX5_villageNow_85 : decode cX5_villageNow 85 = .ok (.aload_n 0, 1) := by decide +kernel
theorem dX5_villageNow_86 : decode cX5_villageNow 86 = .ok (.iload_n 1, 1) := by decide +kernel
theorem dX5_villageNow_87 : decode cX5_villageNow 87 = .ok (.invokevirtual 189, 3) := by decide +kernel
theorem dX5_villageNow_90 : decode cX5_villageNow 90 = .ok (.ireturn, 1) := by decide +kernel
theorem dX5_villageNow_91 : decode cX5_villageNow 91 = .ok (.aload_n 0, 1) := by decide +kernel
theorem dX5_villageNow_92 : decode cX5_villageNow 92 = .ok (.aload_n 0, 1) := by decide +kernel
theorem dX5_villageNow_93 : decode cX5_villageNow 93 = .ok (.iload_n 1, 1) := by decide +kernel
theorem dX5_villageNow_94 : decode cX5_villageNow 94 = .ok (.invokevirtual 189, 3) := by decide +kernel
theorem dX5_villageNow_97 : decode cX5_villageNow 97 = .ok (.invokevirtual 192, 3) := by decide +kernel
theorem dX5_villageNow_100 : decode cX5_villageNow 100 = .ok (.ireturn, 1) := by decide +kernel
theorem dX5_village_0 : decode cX5_village 0 = .ok (.aload_n 0, 1) := by decide +kernel
theorem dX5_village_1 : decode cX5_village 1 = .ok (.iload_n 1, 1) := by decide +kernel
theorem dX5_village_2 : decode cX5_village 2 = .ok (.invokevirtual 195, 3) := by decide +kernel
theorem dX5_village_5 : decode cX5_village 5 = .ok (.ifCond .ne 8, 3) := by decide +kernel
theorem dX5_village_8 : decode cX5_village 8 = .ok (.bipush (-101), 2) := by decide +kernel
theorem dX5_village_10 : decode cX5_village 10 = .ok (.goto 24, 3) := by decide +kernel
theorem dX5_village_13 : decode cX5_village 13 = .ok (.iload_n 2, 1) := by decide +kernel
theorem dX5_village_14 : decode cX5_village 14 = .ok (.iconst 0, 1) := by decide +kernel
theorem dX5_village_15 : decode cX5_village 15 = .ok (.bipush 7, 2) := by decide +kernel
theorem dX5_village_17 : decode cX5_village 17 = .ok (.invokestatic 96, 3) := by decide +kernel
theorem dX5_village_20 : decode cX5_village 20 = .ok (.ifCond .eq 12, 3) := by decide +kernel
theorem dX5_village_23 : decode cX5_village 23 = .ok (.aload_n 0, 1) := by decide +kernel
theorem dX5_village_24 : decode cX5_village 24 = .ok (.iload_n 1, 1) := by decide +kernel
theorem dX5_village_25 : decode cX5_village 25 = .ok (.iload_n 2, 1) := by decide +kernel
theorem dX5_village_26 : decode cX5_village 26 = .ok (.invokevirtual 198, 3) := by decide +kernel
theorem dX5_village_29 : decode cX5_village 29 = .ok (.goto 5, 3) := by decide +kernel
theorem dX5_village_32 : decode cX5_village 32 = .ok (.bipush (-102), 2) := by decide +kernel
theorem dX5_village_34 : decode cX5_village 34 = .ok (.ireturn, 1) := by decide +kernel
theorem dX5_lifts_0 : decode cX5_lifts 0 = .ok (.aload_n 0, 1) := by decide +kernel
theorem dX5_lifts_1 : decode cX5_lifts 1 = .ok (.iload_n 1, 1) := by decide +kernel
theorem dX5_lifts_2 : decode cX5_lifts 2 = .ok (.invokevirtual 195, 3) := by decide +kernel
theorem dX5_lifts_5 : decode cX5_lifts 5 = .ok (.ifCond .ne 6, 3) := by decide +kernel
theorem dX5_lifts_8 : decode cX5_lifts 8 = .ok (.bipush (-101), 2) := by decide +kernel
theorem dX5_lifts_10 : decode cX5_lifts 10 = .ok (.ireturn, 1) := by decide +kernel
theorem dX5_lifts_11 : decode cX5_lifts 11 = .ok (.iload_n 2, 1) := by decide +kernel
theorem dX5_lifts_12 : decode cX5_lifts 12 = .ok (.iload_n 3, 1) := by decide +kernel
theorem dX5_lifts_13 : decode cX5_lifts 13 = .ok (.invokestatic 201, 3) := by decide +kernel
theorem dX5_lifts_16 : decode cX5_lifts 16 = .ok (.ifCond .ne 6, 3) := by decide +kernel
theorem dX5_lifts_19 : decode cX5_lifts 19 = .ok (.bipush (-102), 2) := by decide +kernel
theorem dX5_lifts_21 : decode cX5_lifts 21 = .ok (.ireturn, 1) := by decide +kernel
theorem dX5_lifts_22 : decode cX5_lifts 22 = .ok (.aload_n 0, 1) := by decide +kernel
theorem dX5_lifts_23 : decode cX5_lifts 23 = .ok (.iload_n 1, 1) := by decide +kernel
theorem dX5_lifts_24 : decode cX5_lifts 24 = .ok (.iload_n 2, 1) := by decide +kernel
theorem dX5_lifts_25 : decode cX5_lifts 25 = .ok (.iload_n 3, 1) := by decide +kernel
theorem dX5_lifts_26 : decode cX5_lifts 26 = .ok (.invokevirtual 204, 3) := by decide +kernel
theorem dX5_lifts_29 : decode cX5_lifts 29 = .ok (.ifCond .eq 7, 3) := by decide +kernel
theorem dX5_lifts_32 : decode cX5_lifts 32 = .ok (.iconst 1, 1) := by decide +kernel
theorem dX5_lifts_33 : decode cX5_lifts 33 = .ok (.goto 4, 3) := by decide +kernel
theorem dX5_lifts_36 : decode cX5_lifts 36 = .ok (.iconst 0, 1) := by decide +kernel
theorem dX5_lifts_37 : decode cX5_lifts 37 = .ok (.ireturn, 1) := by decide +kernel
theorem dX5_goAway_0 : decode cX5_goAway 0 = .ok (.aload_n 0, 1) := by decide +kernel
theorem dX5_goAway_1 : decode cX5_goAway 1 = .ok (.getfield 19, 3) := by decide +kernel
theorem dX5_goAway_4 : decode cX5_goAway 4 = .ok (.iload_n 1, 1) := by decide +kernel
theorem dX5_goAway_5 : decode cX5_goAway 5 = .ok (.iconst (-1), 1) := by decide +kernel
theorem dX5_goAway_6 : decode cX5_goAway 6 = .ok (.iastore, 1) := by decide +kernel
theorem dX5_goAway_7 : decode cX5_goAway 7 = .ok (.aload_n 0, 1) := by decide +kernel
theorem dX5_goAway_8 : decode cX5_goAway 8 = .ok (.getfield 22, 3) := by decide +kernel
theorem dX5_goAway_11 : decode cX5_goAway 11 = .ok (.iload_n 1, 1) := by decide +kernel
theorem dX5_goAway_12 : decode cX5_goAway 12 = .ok (.iconst (-1), 1) := by decide +kernel
theorem dX5_goAway_13 : decode cX5_goAway 13 = .ok (.iastore, 1) := by decide +kernel
theorem dX5_goAway_14 : decode cX5_goAway 14 = .ok (.aload_n 0, 1) := by decide +kernel
theorem dX5_goAway_15 : decode cX5_goAway 15 = .ok (.getfield 25, 3) := by decide +kernel
theorem dX5_goAway_18 : decode cX5_goAway 18 = .ok (.iload_n 1, 1) := by decide +kernel
theorem dX5_goAway_19 : decode cX5_goAway 19 = .ok (.iconst 0, 1) := by decide +kernel
theorem dX5_goAway_20 : decode cX5_goAway 20 = .ok (.iastore, 1) := by decide +kernel
theorem dX5_goAway_21 : decode cX5_goAway 21 = .ok (.return_, 1) := by decide +kernel
theorem dX5_slide_0 : decode cX5_slide 0 = .ok (.aload_n 0, 1) := by decide +kernel
theorem dX5_slide_1 : decode cX5_slide 1 = .ok (.getfield 22, 3) := by decide +kernel
theorem dX5_slide_4 : decode cX5_slide 4 = .ok (.iload_n 1, 1) := by decide +kernel
theorem dX5_slide_5 : decode cX5_slide 5 = .ok (.dup2, 1) := by decide +kernel
theorem dX5_slide_6 : decode cX5_slide 6 = .ok (.iaload, 1) := by decide +kernel
theorem dX5_slide_7 : decode cX5_slide 7 = .ok (.iload_n 2, 1) := by decide +kernel
theorem dX5_slide_8 : decode cX5_slide 8 = .ok (.ifCond .ne 7, 3) := by decide +kernel
theorem dX5_slide_11 : decode cX5_slide 11 = .ok (.iconst 1, 1) := by decide +kernel
theorem dX5_slide_12 : decode cX5_slide 12 = .ok (.goto 4, 3) := by decide +kernel
theorem dX5_slide_15 : decode cX5_slide 15 = .ok (.iconst (-1), 1) := by decide +kernel
theorem dX5_slide_16 : decode cX5_slide 16 = .ok (.iadd, 1) := by decide +kernel
theorem dX5_slide_17 : decode cX5_slide 17 = .ok (.iastore, 1) := by decide +kernel
theorem dX5_slide_18 : decode cX5_slide 18 = .ok (.aload_n 0, 1) := by decide +kernel
theorem dX5_slide_19 : decode cX5_slide 19 = .ok (.getfield 22, 3) := by decide +kernel
theorem dX5_slide_22 : decode cX5_slide 22 = .ok (.iload_n 1, 1) := by decide +kernel
theorem dX5_slide_23 : decode cX5_slide 23 = .ok (.iaload, 1) := by decide +kernel
theorem dX5_slide_24 : decode cX5_slide 24 = .ok (.iconst 0, 1) := by decide +kernel
theorem dX5_slide_25 : decode cX5_slide 25 = .ok (.iconst 4, 1) := by decide +kernel
theorem dX5_slide_26 : decode cX5_slide 26 = .ok (.invokestatic 96, 3) := by decide +kernel
theorem dX5_slide_29 : decode cX5_slide 29 = .ok (.ifCond .ne 18, 3) := by decide +kernel
theorem dX5_slide_32 : decode cX5_slide 32 = .ok (.aload_n 0, 1) := by decide +kernel
theorem dX5_slide_33 : decode cX5_slide 33 = .ok (.iload_n 1, 1) := by decide +kernel
theorem dX5_slide_34 : decode cX5_slide 34 = .ok (.invokevirtual 207, 3) := by decide +kernel
theorem dX5_slide_37 : decode cX5_slide 37 = .ok (.aload_n 0, 1) := by decide +kernel
theorem dX5_slide_38 : decode cX5_slide 38 = .ok (.dup, 1) := by decide +kernel
theorem dX5_slide_39 : decode cX5_slide 39 = .ok (.getfield 143, 3) := by decide +kernel
theorem dX5_slide_42 : decode cX5_slide 42 = .ok (.iconst 1, 1) := by decide +kernel
theorem dX5_slide_43 : decode cX5_slide 43 = .ok (.iadd, 1) := by decide +kernel
theorem dX5_slide_44 : decode cX5_slide 44 = .ok (.putfield 143, 3) := by decide +kernel
theorem dX5_slide_47 : decode cX5_slide 47 = .ok (.return_, 1) := by decide +kernel
theorem dX5_wear_0 : decode cX5_wear 0 = .ok (.aload_n 0, 1) := by decide +kernel
theorem dX5_wear_1 : decode cX5_wear 1 = .ok (.getfield 19, 3) := by decide +kernel
theorem dX5_wear_4 : decode cX5_wear 4 = .ok (.iload_n 1, 1) := by decide +kernel
theorem dX5_wear_5 : decode cX5_wear 5 = .ok (.iaload, 1) := by decide +kernel
theorem dX5_wear_6 : decode cX5_wear 6 = .ok (.iconst (-1), 1) := by decide +kernel
theorem dX5_wear_7 : decode cX5_wear 7 = .ok (.if_icmp .eq 71, 3) := by decide +kernel
theorem dX5_wear_10 : decode cX5_wear 10 = .ok (.aload_n 0, 1) := by decide +kernel
theorem dX5_wear_11 : decode cX5_wear 11 = .ok (.getfield 16, 3) := by decide +kernel
theorem dX5_wear_14 : decode cX5_wear 14 = .ok (.iload_n 1, 1) := by decide +kernel
theorem dX5_wear_15 : decode cX5_wear 15 = .ok (.dup2, 1) := by decide +kernel
theorem dX5_wear_16 : decode cX5_wear 16 = .ok (.iaload, 1) := by decide +kernel
theorem dX5_wear_17 : decode cX5_wear 17 = .ok (.aload_n 0, 1) := by decide +kernel
theorem dX5_wear_18 : decode cX5_wear 18 = .ok (.getfield 13, 3) := by decide +kernel
theorem dX5_wear_21 : decode cX5_wear 21 = .ok (.iload_n 1, 1) := by decide +kernel
theorem dX5_wear_22 : decode cX5_wear 22 = .ok (.iaload, 1) := by decide +kernel
theorem dX5_wear_23 : decode cX5_wear 23 = .ok (.iconst 2, 1) := by decide +kernel
theorem dX5_wear_24 : decode cX5_wear 24 = .ok (.if_icmp .ne 17, 3) := by decide +kernel
theorem dX5_wear_27 : decode cX5_wear 27 = .ok (.aload_n 0, 1) := by decide +kernel
theorem dX5_wear_28 : decode cX5_wear 28 = .ok (.getfield 16, 3) := by decide +kernel
theorem dX5_wear_31 : decode cX5_wear 31 = .ok (.iload_n 1, 1) := by decide +kernel
theorem dX5_wear_32 : decode cX5_wear 32 = .ok (.iaload, 1) := by decide +kernel
theorem dX5_wear_33 : decode cX5_wear 33 = .ok (.iconst 1, 1) := by decide +kernel
theorem dX5_wear_34 : decode cX5_wear 34 = .ok (.if_icmp .le 7, 3) := by decide +kernel
theorem dX5_wear_37 : decode cX5_wear 37 = .ok (.iconst 1, 1) := by decide +kernel
theorem dX5_wear_38 : decode cX5_wear 38 = .ok (.goto 4, 3) := by decide +kernel
theorem dX5_wear_41 : decode cX5_wear 41 = .ok (.iconst 0, 1) := by decide +kernel
theorem dX5_wear_42 : decode cX5_wear 42 = .ok (.isub, 1) := by decide +kernel
theorem dX5_wear_43 : decode cX5_wear 43 = .ok (.iastore, 1) := by decide +kernel
theorem dX5_wear_44 : decode cX5_wear 44 = .ok (.aload_n 0, 1) := by decide +kernel
theorem dX5_wear_45 : decode cX5_wear 45 = .ok (.getfield 25, 3) := by decide +kernel
theorem dX5_wear_48 : decode cX5_wear 48 = .ok (.iload_n 1, 1) := by decide +kernel
theorem dX5_wear_49 : decode cX5_wear 49 = .ok (.dup2, 1) := by decide +kernel
theorem dX5_wear_50 : decode cX5_wear 50 = .ok (.iaload, 1) := by decide +kernel
theorem dX5_wear_51 : decode cX5_wear 51 = .ok (.aload_n 0, 1) := by decide +kernel
theorem dX5_wear_52 : decode cX5_wear 52 = .ok (.getfield 13, 3) := by decide +kernel
theorem dX5_wear_55 : decode cX5_wear 55 = .ok (.iload_n 1, 1) := by decide +kernel
theorem dX5_wear_56 : decode cX5_wear 56 = .ok (.iaload, 1) := by decide +kernel
theorem dX5_wear_57 : decode cX5_wear 57 = .ok (.iconst 3, 1) := by decide +kernel
theorem dX5_wear_58 : decode cX5_wear 58 = .ok (.if_icmp .ne 17, 3) := by decide +kernel
theorem dX5_wear_61 : decode cX5_wear 61 = .ok (.aload_n 0, 1) := by decide +kernel
theorem dX5_wear_62 : decode cX5_wear 62 = .ok (.getfield 25, 3) := by decide +kernel
theorem dX5_wear_65 : decode cX5_wear 65 = .ok (.iload_n 1, 1) := by decide +kernel
theorem dX5_wear_66 : decode cX5_wear 66 = .ok (.iaload, 1) := by decide +kernel
theorem dX5_wear_67 : decode cX5_wear 67 = .ok (.iconst 3, 1) := by decide +kernel
theorem dX5_wear_68 : decode cX5_wear 68 = .ok (.if_icmp .ge 7, 3) := by decide +kernel
theorem dX5_wear_71 : decode cX5_wear 71 = .ok (.iconst 1, 1) := by decide +kernel
theorem dX5_wear_72 : decode cX5_wear 72 = .ok (.goto 4, 3) := by decide +kernel
theorem dX5_wear_75 : decode cX5_wear 75 = .ok (.iconst 0, 1) := by decide +kernel
theorem dX5_wear_76 : decode cX5_wear 76 = .ok (.iadd, 1) := by decide +kernel
theorem dX5_wear_77 : decode cX5_wear 77 = .ok (.iastore, 1) := by decide +kernel
theorem dX5_wear_78 : decode cX5_wear 78 = .ok (.return_, 1) := by decide +kernel
theorem dX5_wind_0 : decode cX5_wind 0 = .ok (.iconst 0, 1) := by decide +kernel
theorem dX5_wind_1 : decode cX5_wind 1 = .ok (.istore_n 3, 1) := by decide +kernel
theorem dX5_wind_2 : decode cX5_wind 2 = .ok (.iconst 0, 1) := by decide +kernel
theorem dX5_wind_3 : decode cX5_wind 3 = .ok (.istore 4, 2) := by decide +kernel
theorem dX5_wind_5 : decode cX5_wind 5 = .ok (.iload 4, 2) := by decide +kernel
theorem dX5_wind_7 : decode cX5_wind 7 = .ok (.aload_n 0, 1) := by decide +kernel
theorem dX5_wind_8 : decode cX5_wind 8 = .ok (.getfield 131, 3) := by decide +kernel
theorem dX5_wind_11 : decode cX5_wind 11 = .ok (.if_icmp .ge 31, 3) := by decide +kernel
theorem dX5_wind_14 : decode cX5_wind 14 = .ok (.iload_n 3, 1) := by decide +kernel
theorem dX5_wind_15 : decode cX5_wind 15 = .ok (.aload_n 0, 1) := by decide +kernel
theorem dX5_wind_16 : decode cX5_wind 16 = .ok (.iload 4, 2) := by decide +kernel
theorem dX5_wind_18 : decode cX5_wind 18 = .ok (.iload_n 1, 1) := by decide +kernel
theorem dX5_wind_19 : decode cX5_wind 19 = .ok (.iload_n 2, 1) := by decide +kernel
theorem dX5_wind_20 : decode cX5_wind 20 = .ok (.invokevirtual 204, 3) := by decide +kernel
theorem dX5_wind_23 : decode cX5_wind 23 = .ok (.ifCond .eq 10, 3) := by decide +kernel
theorem dX5_wind_26 : decode cX5_wind 26 = .ok (.iconst 1, 1) := by decide +kernel
theorem dX5_wind_27 : decode cX5_wind 27 = .ok (.iload 4, 2) := by decide +kernel
theorem dX5_wind_29 : decode cX5_wind 29 = .ok (.ishl, 1) := by decide +kernel
theorem dX5_wind_30 : decode cX5_wind 30 = .ok (.goto 4, 3) := by decide +kernel
theorem dX5_wind_33 : decode cX5_wind 33 = .ok (.iconst 0, 1) := by decide +kernel
theorem dX5_wind_34 : decode cX5_wind 34 = .ok (.ior, 1) := by decide +kernel
theorem dX5_wind_35 : decode cX5_wind 35 = .ok (.istore_n 3, 1) := by decide +kernel
theorem dX5_wind_36 : decode cX5_wind 36 = .ok (.iinc 4 1, 3) := by decide +kernel
theorem dX5_wind_39 : decode cX5_wind 39 = .ok (.goto (-34), 3) := by decide +kernel
theorem dX5_wind_42 : decode cX5_wind 42 = .ok (.iconst 0, 1) := by decide +kernel
theorem dX5_wind_43 : decode cX5_wind 43 = .ok (.istore 4, 2) := by decide +kernel
theorem dX5_wind_45 : decode cX5_wind 45 = .ok (.iload 4, 2) := by decide +kernel
theorem dX5_wind_47 : decode cX5_wind 47 = .ok (.aload_n 0, 1) := by decide +kernel
theorem dX5_wind_48 : decode cX5_wind 48 = .ok (.getfield 134, 3) := by decide +kernel
theorem dX5_wind_51 : decode cX5_wind 51 = .ok (.if_icmp .ge 41, 3) := by decide +kernel
theorem dX5_wind_54 : decode cX5_wind 54 = .ok (.aload_n 0, 1) := by decide +kernel
theorem dX5_wind_55 : decode cX5_wind 55 = .ok (.getfield 19, 3) := by decide +kernel
theorem dX5_wind_58 : decode cX5_wind 58 = .ok (.iload 4, 2) := by decide +kernel
theorem dX5_wind_60 : decode cX5_wind 60 = .ok (.iaload, 1) := by decide +kernel
theorem dX5_wind_61 : decode cX5_wind 61 = .ok (.iconst (-1), 1) := by decide +kernel
theorem dX5_wind_62 : decode cX5_wind 62 = .ok (.if_icmp .eq 24, 3) := by decide +kernel
theorem dX5_wind_65 : decode cX5_wind 65 = .ok (.iload_n 3, 1) := by decide +kernel
theorem dX5_wind_66 : decode cX5_wind 66 = .ok (.aload_n 0, 1) := by decide +kernel
theorem dX5_wind_67 : decode cX5_wind 67 = .ok (.getfield 19, 3) := by decide +kernel
theorem dX5_wind_70 : decode cX5_wind 70 = .ok (.iload 4, 2) := by decide +kernel
theorem dX5_wind_72 : decode cX5_wind 72 = .ok (.iaload, 1) := by decide +kernel
theorem dX5_wind_73 : decode cX5_wind 73 = .ok (.invokestatic 172, 3) := by decide +kernel
theorem dX5_wind_76 : decode cX5_wind 76 = .ok (.ifCond .eq 10, 3) := by decide +kernel
theorem dX5_wind_79 : decode cX5_wind 79 = .ok (.aload_n 0, 1) := by decide +kernel
theorem dX5_wind_80 : decode cX5_wind 80 = .ok (.iload 4, 2) := by decide +kernel
theorem dX5_wind_82 : decode cX5_wind 82 = .ok (.iload_n 1, 1) := by decide +kernel
theorem dX5_wind_83 : decode cX5_wind 83 = .ok (.invokevirtual 211, 3) := by decide +kernel
theorem dX5_wind_86 : decode cX5_wind 86 = .ok (.iinc 4 1, 3) := by decide +kernel
theorem dX5_wind_89 : decode cX5_wind 89 = .ok (.goto (-44), 3) := by decide +kernel
theorem dX5_wind_92 : decode cX5_wind 92 = .ok (.iconst 0, 1) := by decide +kernel
theorem dX5_wind_93 : decode cX5_wind 93 = .ok (.istore 4, 2) := by decide +kernel
theorem dX5_wind_95 : decode cX5_wind 95 = .ok (.iload 4, 2) := by decide +kernel
theorem dX5_wind_97 : decode cX5_wind 97 = .ok (.aload_n 0, 1) := by decide +kernel
theorem dX5_wind_98 : decode cX5_wind 98 = .ok (.getfield 134, 3) := by decide +kernel
theorem dX5_wind_101 : decode cX5_wind 101 = .ok (.if_icmp .ge 15, 3) := by decide +kernel
theorem dX5_wind_104 : decode cX5_wind 104 = .ok (.aload_n 0, 1) := by decide +kernel
theorem dX5_wind_105 : decode cX5_wind 105 = .ok (.iload 4, 2) := by decide +kernel
theorem dX5_wind_107 : decode cX5_wind 107 = .ok (.invokevirtual 215, 3) := by decide +kernel
theorem dX5_wind_110 : decode cX5_wind 110 = .ok (.iinc 4 1, 3) := by decide +kernel
theorem dX5_wind_113 : decode cX5_wind 113 = .ok (.goto (-18), 3) := by decide +kernel
theorem dX5_wind_116 : decode cX5_wind 116 = .ok (.aload_n 0, 1) := by decide +kernel
theorem dX5_wind_117 : decode cX5_wind 117 = .ok (.dup, 1) := by decide +kernel
theorem dX5_wind_118 : decode cX5_wind 118 = .ok (.getfield 140, 3) := by decide +kernel
theorem dX5_wind_121 : decode cX5_wind 121 = .ok (.iload_n 3, 1) := by decide +kernel
theorem dX5_wind_122 : decode cX5_wind 122 = .ok (.invokestatic 218, 3) := by decide +kernel
theorem dX5_wind_125 : decode cX5_wind 125 = .ok (.iadd, 1) := by decide +kernel
theorem dX5_wind_126 : decode cX5_wind 126 = .ok (.putfield 140, 3) := by decide +kernel
theorem dX5_wind_129 : decode cX5_wind 129 = .ok (.iload_n 3, 1) := by decide +kernel
theorem dX5_wind_130 : decode cX5_wind 130 = .ok (.invokestatic 218, 3) := by decide +kernel
theorem dX5_wind_133 : decode cX5_wind 133 = .ok (.ireturn, 1) := by decide +kernel
theorem dX5_blow_0 : decode cX5_blow 0 = .ok (.iload_n 1, 1) := by decide +kernel
theorem dX5_blow_1 : decode cX5_blow 1 = .ok (.iload_n 2, 1) := by decide +kernel
theorem dX5_blow_2 : decode cX5_blow 2 = .ok (.invokestatic 201, 3) := by decide +kernel
theorem dX5_blow_5 : decode cX5_blow 5 = .ok (.ifCond .ne 6, 3) := by decide +kernel
theorem dX5_blow_8 : decode cX5_blow 8 = .ok (.bipush (-102), 2) := by decide +kernel
theorem dX5_blow_10 : decode cX5_blow 10 = .ok (.ireturn, 1) := by decide +kernel
theorem dX5_blow_11 : decode cX5_blow 11 = .ok (.aload_n 0, 1) := by decide +kernel
theorem dX5_blow_12 : decode cX5_blow 12 = .ok (.getfield 131, 3) := by decide +kernel
theorem dX5_blow_15 : decode cX5_blow 15 = .ok (.ifCond .ne 6, 3) := by decide +kernel
theorem dX5_blow_18 : decode cX5_blow 18 = .ok (.bipush (-103), 2) := by decide +kernel
theorem dX5_blow_20 : decode cX5_blow 20 = .ok (.ireturn, 1) := by decide +kernel
theorem dX5_blow_21 : decode cX5_blow 21 = .ok (.aload_n 0, 1) := by decide +kernel
theorem dX5_blow_22 : decode cX5_blow 22 = .ok (.getfield 137, 3) := by decide +kernel
theorem dX5_blow_25 : decode cX5_blow 25 = .ok (.sipush 999, 3) := by decide +kernel
theorem dX5_blow_28 : decode cX5_blow 28 = .ok (.if_icmp .ne 6, 3) := by decide +kernel
theorem dX5_blow_31 : decode cX5_blow 31 = .ok (.bipush (-104), 2) := by decide +kernel
theorem dX5_blow_33 : decode cX5_blow 33 = .ok (.ireturn, 1) := by decide +kernel
theorem dX5_blow_34 : decode cX5_blow 34 = .ok (.aload_n 0, 1) := by decide +kernel
theorem dX5_blow_35 : decode cX5_blow 35 = .ok (.dup, 1) := by decide +kernel
theorem dX5_blow_36 : decode cX5_blow 36 = .ok (.getfield 137, 3) := by decide +kernel
theorem dX5_blow_39 : decode cX5_blow 39 = .ok (.iconst 1, 1) := by decide +kernel
theorem dX5_blow_40 : decode cX5_blow 40 = .ok (.iadd, 1) := by decide +kernel
theorem dX5_blow_41 : decode cX5_blow 41 = .ok (.putfield 137, 3) := by decide +kernel
theorem dX5_blow_44 : decode cX5_blow 44 = .ok (.aload_n 0, 1) := by decide +kernel
theorem dX5_blow_45 : decode cX5_blow 45 = .ok (.iload_n 1, 1) := by decide +kernel
theorem dX5_blow_46 : decode cX5_blow 46 = .ok (.iload_n 2, 1) := by decide +kernel
theorem dX5_blow_47 : decode cX5_blow 47 = .ok (.invokevirtual 221, 3) := by decide +kernel
theorem dX5_blow_50 : decode cX5_blow 50 = .ok (.ireturn, 1) := by decide +kernel
theorem dX5_put_0 : decode cX5_put 0 = .ok (.aload_n 0, 1) := by decide +kernel
theorem dX5_put_1 : decode cX5_put 1 = .ok (.iload_n 1, 1) := by decide +kernel
theorem dX5_put_2 : decode cX5_put 2 = .ok (.invokevirtual 182, 3) := by decide +kernel
theorem dX5_put_5 : decode cX5_put 5 = .ok (.ifCond .eq 11, 3) := by decide +kernel
theorem dX5_put_8 : decode cX5_put 8 = .ok (.aload_n 0, 1) := by decide +kernel
theorem dX5_put_9 : decode cX5_put 9 = .ok (.iload_n 2, 1) := by decide +kernel
theorem dX5_put_10 : decode cX5_put 10 = .ok (.invokevirtual 195, 3) := by decide +kernel
theorem dX5_put_13 : decode cX5_put 13 = .ok (.ifCond .ne 6, 3) := by decide +kernel
theorem dX5_put_16 : decode cX5_put 16 = .ok (.bipush (-101), 2) := by decide +kernel
theorem dX5_put_18 : decode cX5_put 18 = .ok (.ireturn, 1) := by decide +kernel
theorem dX5_put_19 : decode cX5_put 19 = .ok (.iload_n 3, 1) := by decide +kernel
theorem dX5_put_20 : decode cX5_put 20 = .ok (.iconst 0, 1) := by decide +kernel
theorem dX5_put_21 : decode cX5_put 21 = .ok (.iconst 4, 1) := by decide +kernel
theorem dX5_put_22 : decode cX5_put 22 = .ok (.invokestatic 96, 3) := by decide +kernel
theorem dX5_put_25 : decode cX5_put 25 = .ok (.ifCond .ne 6, 3) := by decide +kernel
theorem dX5_put_28 : decode cX5_put 28 = .ok (.bipush (-102), 2) := by decide +kernel
theorem dX5_put_30 : decode cX5_put 30 = .ok (.ireturn, 1) := by decide +kernel
theorem dX5_put_31 : decode cX5_put 31 = .ok (.aload_n 0, 1) := by decide +kernel
theorem dX5_put_32 : decode cX5_put 32 = .ok (.getfield 19, 3) := by decide +kernel
theorem dX5_put_35 : decode cX5_put 35 = .ok (.iload_n 1, 1) := by decide +kernel
theorem dX5_put_36 : decode cX5_put 36 = .ok (.iaload, 1) := by decide +kernel
theorem dX5_put_37 : decode cX5_put 37 = .ok (.istore 4, 2) := by decide +kernel
theorem dX5_put_39 : decode cX5_put 39 = .ok (.aload_n 0, 1) := by decide +kernel
theorem dX5_put_40 : decode cX5_put 40 = .ok (.getfield 19, 3) := by decide +kernel
theorem dX5_put_43 : decode cX5_put 43 = .ok (.iload_n 1, 1) := by decide +kernel
theorem dX5_put_44 : decode cX5_put 44 = .ok (.iload_n 2, 1) := by decide +kernel
theorem dX5_put_45 : decode cX5_put 45 = .ok (.iastore, 1) := by decide +kernel
theorem dX5_put_46 : decode cX5_put 46 = .ok (.aload_n 0, 1) := by decide +kernel
theorem dX5_put_47 : decode cX5_put 47 = .ok (.getfield 22, 3) := by decide +kernel
theorem dX5_put_50 : decode cX5_put 50 = .ok (.iload_n 1, 1) := by decide +kernel
theorem dX5_put_51 : decode cX5_put 51 = .ok (.iload_n 3, 1) := by decide +kernel
theorem dX5_put_52 : decode cX5_put 52 = .ok (.iastore, 1) := by decide +kernel
theorem dX5_put_53 : decode cX5_put 53 = .ok (.aload_n 0, 1) := by decide +kernel
theorem dX5_put_54 : decode cX5_put 54 = .ok (.getfield 25, 3) := by decide +kernel
theorem dX5_put_57 : decode cX5_put 57 = .ok (.iload_n 1, 1) := by decide +kernel
theorem dX5_put_58 : decode cX5_put 58 = .ok (.iconst 0, 1) := by decide +kernel
theorem dX5_put_59 : decode cX5_put 59 = .ok (.iastore, 1) := by decide +kernel
theorem dX5_put_60 : decode cX5_put 60 = .ok (.iload 4, 2) := by decide +kernel
theorem dX5_put_62 : decode cX5_put 62 = .ok (.ireturn, 1) := by decide +kernel
theorem dX5_lift_0 : decode cX5_lift 0 = .ok (.aload_n 0, 1) := by decide +kernel
theorem dX5_lift_1 : decode cX5_lift 1 = .ok (.iload_n 1, 1) := by decide +kernel
theorem dX5_lift_2 : decode cX5_lift 2 = .ok (.invokevirtual 182, 3) := by decide +kernel
theorem dX5_lift_5 : decode cX5_lift 5 = .ok (.ifCond .ne 6, 3) := by decide +kernel
theorem dX5_lift_8 : decode cX5_lift 8 = .ok (.bipush (-101), 2) := by decide +kernel
theorem dX5_lift_10 : decode cX5_lift 10 = .ok (.ireturn, 1) := by decide +kernel
theorem dX5_lift_11 : decode cX5_lift 11 = .ok (.aload_n 0, 1) := by decide +kernel
theorem dX5_lift_12 : decode cX5_lift 12 = .ok (.getfield 19, 3) := by decide +kernel
theorem dX5_lift_15 : decode cX5_lift 15 = .ok (.iload_n 1, 1) := by decide +kernel
theorem dX5_lift_16 : decode cX5_lift 16 = .ok (.iaload, 1) := by decide +kernel
theorem dX5_lift_17 : decode cX5_lift 17 = .ok (.istore_n 2, 1) := by decide +kernel
theorem dX5_lift_18 : decode cX5_lift 18 = .ok (.iload_n 2, 1) := by decide +kernel
theorem dX5_lift_19 : decode cX5_lift 19 = .ok (.iconst (-1), 1) := by decide +kernel
theorem dX5_lift_20 : decode cX5_lift 20 = .ok (.if_icmp .ne 6, 3) := by decide +kernel
theorem dX5_lift_23 : decode cX5_lift 23 = .ok (.bipush (-103), 2) := by decide +kernel
theorem dX5_lift_25 : decode cX5_lift 25 = .ok (.ireturn, 1) := by decide +kernel
theorem dX5_lift_26 : decode cX5_lift 26 = .ok (.aload_n 0, 1) := by decide +kernel
theorem dX5_lift_27 : decode cX5_lift 27 = .ok (.iload_n 1, 1) := by decide +kernel
theorem dX5_lift_28 : decode cX5_lift 28 = .ok (.invokevirtual 207, 3) := by decide +kernel
theorem dX5_lift_31 : decode cX5_lift 31 = .ok (.iload_n 2, 1) := by decide +kernel
theorem dX5_lift_32 : decode cX5_lift 32 = .ok (.ireturn, 1) := by decide +kernel
theorem dX5_cut_0 : decode cX5_cut 0 = .ok (.aload_n 0, 1) := by decide +kernel
theorem dX5_cut_1 : decode cX5_cut 1 = .ok (.iload_n 1, 1) := by decide +kernel
theorem dX5_cut_2 : decode cX5_cut 2 = .ok (.invokevirtual 182, 3) := by decide +kernel
theorem dX5_cut_5 : decode cX5_cut 5 = .ok (.ifCond .ne 6, 3) := by decide +kernel
theorem dX5_cut_8 : decode cX5_cut 8 = .ok (.bipush (-101), 2) := by decide +kernel
theorem dX5_cut_10 : decode cX5_cut 10 = .ok (.ireturn, 1) := by decide +kernel
theorem dX5_cut_11 : decode cX5_cut 11 = .ok (.iload_n 2, 1) := by decide +kernel
theorem dX5_cut_12 : decode cX5_cut 12 = .ok (.iconst 1, 1) := by decide +kernel
theorem dX5_cut_13 : decode cX5_cut 13 = .ok (.bipush 9, 2) := by decide +kernel
theorem dX5_cut_15 : decode cX5_cut 15 = .ok (.invokestatic 96, 3) := by decide +kernel
theorem dX5_cut_18 : decode cX5_cut 18 = .ok (.ifCond .ne 6, 3) := by decide +kernel
theorem dX5_cut_21 : decode cX5_cut 21 = .ok (.bipush (-102), 2) := by decide +kernel
theorem dX5_cut_23 : decode cX5_cut 23 = .ok (.ireturn, 1) := by decide +kernel
theorem dX5_cut_24 : decode cX5_cut 24 = .ok (.aload_n 0, 1) := by decide +kernel
theorem dX5_cut_25 : decode cX5_cut 25 = .ok (.getfield 16, 3) := by decide +kernel
theorem dX5_cut_28 : decode cX5_cut 28 = .ok (.iload_n 1, 1) := by decide +kernel
theorem dX5_cut_29 : decode cX5_cut 29 = .ok (.iaload, 1) := by decide +kernel
theorem dX5_cut_30 : decode cX5_cut 30 = .ok (.istore_n 3, 1) := by decide +kernel
theorem dX5_cut_31 : decode cX5_cut 31 = .ok (.aload_n 0, 1) := by decide +kernel
theorem dX5_cut_32 : decode cX5_cut 32 = .ok (.getfield 16, 3) := by decide +kernel
theorem dX5_cut_35 : decode cX5_cut 35 = .ok (.iload_n 1, 1) := by decide +kernel
theorem dX5_cut_36 : decode cX5_cut 36 = .ok (.iload_n 2, 1) := by decide +kernel
theorem dX5_cut_37 : decode cX5_cut 37 = .ok (.iastore, 1) := by decide +kernel
theorem dX5_cut_38 : decode cX5_cut 38 = .ok (.iload_n 3, 1) := by decide +kernel
theorem dX5_cut_39 : decode cX5_cut 39 = .ok (.ireturn, 1) := by decide +kernel
theorem dX5_build_0 : decode cX5_build 0 = .ok (.aload_n 0, 1) := by decide +kernel
theorem dX5_build_1 : decode cX5_build 1 = .ok (.iload_n 1, 1) := by decide +kernel
theorem dX5_build_2 : decode cX5_build 2 = .ok (.invokevirtual 195, 3) := by decide +kernel
theorem dX5_build_5 : decode cX5_build 5 = .ok (.ifCond .ne 6, 3) := by decide +kernel
theorem dX5_build_8 : decode cX5_build 8 = .ok (.bipush (-101), 2) := by decide +kernel
theorem dX5_build_10 : decode cX5_build 10 = .ok (.ireturn, 1) := by decide +kernel
theorem dX5_build_11 : decode cX5_build 11 = .ok (.iload_n 2, 1) := by decide +kernel
theorem dX5_build_12 : decode cX5_build 12 = .ok (.iconst 0, 1) := by decide +kernel
theorem dX5_build_13 : decode cX5_build 13 = .ok (.bipush 9, 2) := by decide +kernel
theorem dX5_build_15 : decode cX5_build 15 = .ok (.invokestatic 96, 3) := by decide +kernel
theorem dX5_build_18 : decode cX5_build 18 = .ok (.ifCond .ne 6, 3) := by decide +kernel
theorem dX5_build_21 : decode cX5_build 21 = .ok (.bipush (-102), 2) := by decide +kernel
theorem dX5_build_23 : decode cX5_build 23 = .ok (.ireturn, 1) := by decide +kernel
theorem dX5_build_24 : decode cX5_build 24 = .ok (.aload_n 0, 1) := by decide +kernel
theorem dX5_build_25 : decode cX5_build 25 = .ok (.getfield 7, 3) := by decide +kernel
theorem dX5_build_28 : decode cX5_build 28 = .ok (.iload_n 1, 1) := by decide +kernel
theorem dX5_build_29 : decode cX5_build 29 = .ok (.iaload, 1) := by decide +kernel
theorem dX5_build_30 : decode cX5_build 30 = .ok (.istore_n 3, 1) := by decide +kernel
theorem dX5_build_31 : decode cX5_build 31 = .ok (.aload_n 0, 1) := by decide +kernel
theorem dX5_build_32 : decode cX5_build 32 = .ok (.getfield 7, 3) := by decide +kernel
theorem dX5_build_35 : decode cX5_build 35 = .ok (.iload_n 1, 1) := by decide +kernel
theorem dX5_build_36 : decode cX5_build 36 = .ok (.iload_n 2, 1) := by decide +kernel
theorem dX5_build_37 : decode cX5_build 37 = .ok (.iastore, 1) := by decide +kernel
theorem dX5_build_38 : decode cX5_build 38 = .ok (.iload_n 3, 1) := by decide +kernel
theorem dX5_build_39 : decode cX5_build 39 = .ok (.ireturn, 1) := by decide +kernel
theorem dX5_whereNow_0 : decode cX5_whereNow 0 = .ok (.aload_n 0, 1) := by decide +kernel
theorem dX5_whereNow_1 : decode cX5_whereNow 1 = .ok (.getfield 19, 3) := by decide +kernel
theorem dX5_whereNow_4 : decode cX5_whereNow 4 = .ok (.iload_n 1, 1) := by decide +kernel
theorem dX5_whereNow_5 : decode cX5_whereNow 5 = .ok (.iaload, 1) := by decide +kernel
theorem dX5_whereNow_6 : decode cX5_whereNow 6 = .ok (.istore 4, 2) := by decide +kernel
theorem dX5_whereNow_8 : decode cX5_whereNow 8 = .ok (.aload_n 0, 1) := by decide +kernel
theorem dX5_whereNow_9 : decode cX5_whereNow 9 = .ok (.getfield 22, 3) := by decide +kernel
theorem dX5_whereNow_12 : decode cX5_whereNow 12 = .ok (.iload_n 1, 1) := by decide +kernel
theorem dX5_whereNow_13 : decode cX5_whereNow 13 = .ok (.iaload, 1) := by decide +kernel
theorem dX5_whereNow_14 : decode cX5_whereNow 14 = .ok (.istore 5, 2) := by decide +kernel
theorem dX5_whereNow_16 : decode cX5_whereNow 16 = .ok (.aload_n 0, 1) := by decide +kernel
theorem dX5_whereNow_17 : decode cX5_whereNow 17 = .ok (.getfield 25, 3) := by decide +kernel
theorem dX5_whereNow_20 : decode cX5_whereNow 20 = .ok (.iload_n 1, 1) := by decide +kernel
theorem dX5_whereNow_21 : decode cX5_whereNow 21 = .ok (.iaload, 1) := by decide +kernel
theorem dX5_whereNow_22 : decode cX5_whereNow 22 = .ok (.istore 6, 2) := by decide +kernel
theorem dX5_whereNow_24 : decode cX5_whereNow 24 = .ok (.aload_n 0, 1) := by decide +kernel
theorem dX5_whereNow_25 : decode cX5_whereNow 25 = .ok (.getfield 19, 3) := by decide +kernel
theorem dX5_whereNow_28 : decode cX5_whereNow 28 = .ok (.iload_n 1, 1) := by decide +kernel
theorem dX5_whereNow_29 : decode cX5_whereNow 29 = .ok (.iload_n 2, 1) := by decide +kernel
theorem dX5_whereNow_30 : decode cX5_whereNow 30 = .ok (.iastore, 1) := by decide +kernel
theorem dX5_whereNow_31 : decode cX5_whereNow 31 = .ok (.aload_n 0, 1) := by decide +kernel
theorem dX5_whereNow_32 : decode cX5_whereNow 32 = .ok (.getfield 25, 3) := by decide +kernel
theorem dX5_whereNow_35 : decode cX5_whereNow 35 = .ok (.iload_n 1, 1) := by decide +kernel
theorem dX5_whereNow_36 : decode cX5_whereNow 36 = .ok (.iconst 0, 1) := by decide +kernel
theorem dX5_whereNow_37 : decode cX5_whereNow 37 = .ok (.iastore, 1) := by decide +kernel
theorem dX5_whereNow_38 : decode cX5_whereNow 38 = .ok (.iconst 0, 1) := by decide +kernel
theorem dX5_whereNow_39 : decode cX5_whereNow 39 = .ok (.istore 7, 2) := by decide +kernel
theorem dX5_whereNow_41 : decode cX5_whereNow 41 = .ok (.iconst (-1), 1) := by decide +kernel
theorem dX5_whereNow_42 : decode cX5_whereNow 42 = .ok (.istore 8, 2) := by decide +kernel
theorem dX5_whereNow_44 : decode cX5_whereNow 44 = .ok (.iconst 0, 1) := by decide +kernel
theorem dX5_whereNow_45 : decode cX5_whereNow 45 = .ok (.istore 9, 2) := by decide +kernel
theorem dX5_whereNow_47 : decode cX5_whereNow 47 = .ok (.iload 9, 2) := by decide +kernel
theorem dX5_whereNow_49 : decode cX5_whereNow 49 = .ok (.iconst 5, 1) := by decide +kernel
theorem dX5_whereNow_50 : decode cX5_whereNow 50 = .ok (.if_icmp .ge 58, 3) := by decide +kernel
theorem dX5_whereNow_53 : decode cX5_whereNow 53 = .ok (.aload_n 0, 1) := by decide +kernel
theorem dX5_whereNow_54 : decode cX5_whereNow 54 = .ok (.getfield 22, 3) := by decide +kernel
theorem dX5_whereNow_57 : decode cX5_whereNow 57 = .ok (.iload_n 1, 1) := by decide +kernel
theorem dX5_whereNow_58 : decode cX5_whereNow 58 = .ok (.iload 9, 2) := by decide +kernel
theorem dX5_whereNow_60 : decode cX5_whereNow 60 = .ok (.iastore, 1) := by decide +kernel
theorem dX5_whereNow_61 : decode cX5_whereNow 61 = .ok (.aload_n 0, 1) := by decide +kernel
theorem dX5_whereNow_62 : decode cX5_whereNow 62 = .ok (.iload_n 2, 1) := by decide +kernel
theorem dX5_whereNow_63 : decode cX5_whereNow 63 = .ok (.invokevirtual 169, 3) := by decide +kernel
theorem dX5_whereNow_66 : decode cX5_whereNow 66 = .ok (.iload 8, 2) := by decide +kernel
theorem dX5_whereNow_68 : decode cX5_whereNow 68 = .ok (.if_icmp .le 8, 3) := by decide +kernel
theorem dX5_whereNow_71 : decode cX5_whereNow 71 = .ok (.iload 9, 2) := by decide +kernel
theorem dX5_whereNow_73 : decode cX5_whereNow 73 = .ok (.goto 5, 3) := by decide +kernel
theorem dX5_whereNow_76 : decode cX5_whereNow 76 = .ok (.iload 7, 2) := by decide +kernel
theorem dX5_whereNow_78 : decode cX5_whereNow 78 = .ok (.istore 7, 2) := by decide +kernel
theorem dX5_whereNow_80 : decode cX5_whereNow 80 = .ok (.aload_n 0, 1) := by decide +kernel
theorem dX5_whereNow_81 : decode cX5_whereNow 81 = .ok (.iload_n 2, 1) := by decide +kernel
theorem dX5_whereNow_82 : decode cX5_whereNow 82 = .ok (.invokevirtual 169, 3) := by decide +kernel
theorem dX5_whereNow_85 : decode cX5_whereNow 85 = .ok (.iload 8, 2) := by decide +kernel
theorem dX5_whereNow_87 : decode cX5_whereNow 87 = .ok (.if_icmp .le 11, 3) := by decide +kernel
theorem dX5_whereNow_90 : decode cX5_whereNow 90 = .ok (.aload_n 0, 1) := by decide +kernel
theorem dX5_whereNow_91 : decode cX5_whereNow 91 = .ok (.iload_n 2, 1) := by decide +kernel
theorem dX5_whereNow_92 : decode cX5_whereNow 92 = .ok (.invokevirtual 169, 3) := by decide +kernel
theorem dX5_whereNow_95 : decode cX5_whereNow 95 = .ok (.goto 5, 3) := by decide +kernel
theorem dX5_whereNow_98 : decode cX5_whereNow 98 = .ok (.iload 8, 2) := by decide +kernel
theorem dX5_whereNow_100 : decode cX5_whereNow 100 = .ok (.istore 8, 2) := by decide +kernel
theorem dX5_whereNow_102 : decode cX5_whereNow 102 = .ok (.iinc 9 1, 3) := by decide +kernel
theorem dX5_whereNow_105 : decode cX5_whereNow 105 = .ok (.goto (-58), 3) := by decide +kernel
theorem dX5_whereNow_108 : decode cX5_whereNow 108 = .ok (.aload_n 0, 1) := by decide +kernel
theorem dX5_whereNow_109 : decode cX5_whereNow 109 = .ok (.getfield 19, 3) := by decide +kernel
theorem dX5_whereNow_112 : decode cX5_whereNow 112 = .ok (.iload_n 1, 1) := by decide +kernel
theorem dX5_whereNow_113 : decode cX5_whereNow 113 = .ok (.iload 4, 2) := by decide +kernel
theorem dX5_whereNow_115 : decode cX5_whereNow 115 = .ok (.iastore, 1) := by decide +kernel
theorem dX5_whereNow_116 : decode cX5_whereNow 116 = .ok (.aload_n 0, 1) := by decide +kernel
theorem dX5_whereNow_117 : decode cX5_whereNow 117 = .ok (.getfield 22, 3) := by decide +kernel
theorem dX5_whereNow_120 : decode cX5_whereNow 120 = .ok (.iload_n 1, 1) := by decide +kernel
theorem dX5_whereNow_121 : decode cX5_whereNow 121 = .ok (.iload 5, 2) := by decide +kernel
theorem dX5_whereNow_123 : decode cX5_whereNow 123 = .ok (.iastore, 1) := by decide +kernel
theorem dX5_whereNow_124 : decode cX5_whereNow 124 = .ok (.aload_n 0, 1) := by decide +kernel
theorem dX5_whereNow_125 : decode cX5_whereNow 125 = .ok (.getfield 25, 3) := by decide +kernel
theorem dX5_whereNow_128 : decode cX5_whereNow 128 = .ok (.iload_n 1, 1) := by decide +kernel
theorem dX5_whereNow_129 : decode cX5_whereNow 129 = .ok (.iload 6, 2) := by decide +kernel
theorem dX5_whereNow_131 : decode cX5_whereNow 131 = .ok (.iastore, 1) := by decide +kernel
theorem dX5_whereNow_132 : decode cX5_whereNow 132 = .ok (.iload_n 3, 1) := by decide +kernel
theorem dX5_whereNow_133 : decode cX5_whereNow 133 = .ok (.ifCond .ne 8, 3) := by decide +kernel
theorem dX5_whereNow_136 : decode cX5_whereNow 136 = .ok (.iload 7, 2) := by decide +kernel
theorem dX5_whereNow_138 : decode cX5_whereNow 138 = .ok (.goto 5, 3) := by decide +kernel
theorem dX5_whereNow_141 : decode cX5_whereNow 141 = .ok (.iload 8, 2) := by decide +kernel
theorem dX5_whereNow_143 : decode cX5_whereNow 143 = .ok (.ireturn, 1) := by decide +kernel
theorem dX5_where_0 : decode cX5_where 0 = .ok (.aload_n 0, 1) := by decide +kernel
theorem dX5_where_1 : decode cX5_where 1 = .ok (.iload_n 1, 1) := by decide +kernel
theorem dX5_where_2 : decode cX5_where 2 = .ok (.invokevirtual 182, 3) := by decide +kernel
theorem dX5_where_5 : decode cX5_where 5 = .ok (.ifCond .eq 11, 3) := by decide +kernel
theorem dX5_where_8 : decode cX5_where 8 = .ok (.aload_n 0, 1) := by decide +kernel
theorem dX5_where_9 : decode cX5_where 9 = .ok (.iload_n 2, 1) := by decide +kernel
theorem dX5_where_10 : decode cX5_where 10 = .ok (.invokevirtual 195, 3) := by decide +kernel
theorem dX5_where_13 : decode cX5_where 13 = .ok (.ifCond .ne 6, 3) := by decide +kernel
theorem dX5_where_16 : decode cX5_where 16 = .ok (.bipush (-101), 2) := by decide +kernel
theorem dX5_where_18 : decode cX5_where 18 = .ok (.ireturn, 1) := by decide +kernel
theorem dX5_where_19 : decode cX5_where 19 = .ok (.iload_n 3, 1) := by decide +kernel
theorem dX5_where_20 : decode cX5_where 20 = .ok (.iconst 0, 1) := by decide +kernel
theorem dX5_where_21 : decode cX5_where 21 = .ok (.iconst 1, 1) := by decide +kernel
theorem dX5_where_22 : decode cX5_where 22 = .ok (.invokestatic 96, 3) := by decide +kernel
theorem dX5_where_25 : decode cX5_where 25 = .ok (.ifCond .eq 13, 3) := by decide +kernel
theorem dX5_where_28 : decode cX5_where 28 = .ok (.aload_n 0, 1) := by decide +kernel
theorem dX5_where_29 : decode cX5_where 29 = .ok (.iload_n 1, 1) := by decide +kernel
theorem dX5_where_30 : decode cX5_where 30 = .ok (.iload_n 2, 1) := by decide +kernel
theorem dX5_where_31 : decode cX5_where 31 = .ok (.iload_n 3, 1) := by decide +kernel
theorem dX5_where_32 : decode cX5_where 32 = .ok (.invokevirtual 224, 3) := by decide +kernel
theorem dX5_where_35 : decode cX5_where 35 = .ok (.goto 5, 3) := by decide +kernel
theorem dX5_where_38 : decode cX5_where 38 = .ok (.bipush (-102), 2) := by decide +kernel
theorem dX5_where_40 : decode cX5_where 40 = .ok (.ireturn, 1) := by decide +kernel
theorem dX5_bareBears_0 : decode cX5_bareBears 0 = .ok (.iload_n 0, 1) := by decide +kernel
theorem dX5_bareBears_1 : decode cX5_bareBears 1 = .ok (.iconst 1, 1) := by decide +kernel
theorem dX5_bareBears_2 : decode cX5_bareBears 2 = .ok (.if_icmp .ne 9, 3) := by decide +kernel
theorem dX5_bareBears_5 : decode cX5_bareBears 5 = .ok (.iconst 2, 1) := by decide +kernel
theorem dX5_bareBears_6 : decode cX5_bareBears 6 = .ok (.iload_n 1, 1) := by decide +kernel
theorem dX5_bareBears_7 : decode cX5_bareBears 7 = .ok (.imul, 1) := by decide +kernel
theorem dX5_bareBears_8 : decode cX5_bareBears 8 = .ok (.goto 14, 3) := by decide +kernel
theorem dX5_bareBears_11 : decode cX5_bareBears 11 = .ok (.iload_n 0, 1) := by decide +kernel
theorem dX5_bareBears_12 : decode cX5_bareBears 12 = .ok (.iconst 4, 1) := by decide +kernel
theorem dX5_bareBears_13 : decode cX5_bareBears 13 = .ok (.if_icmp .ne 8, 3) := by decide +kernel
theorem dX5_bareBears_16 : decode cX5_bareBears 16 = .ok (.bipush 100, 2) := by decide +kernel
theorem dX5_bareBears_18 : decode cX5_bareBears 18 = .ok (.goto 4, 3) := by decide +kernel
theorem dX5_bareBears_21 : decode cX5_bareBears 21 = .ok (.iload_n 1, 1) := by decide +kernel
theorem dX5_bareBears_22 : decode cX5_bareBears 22 = .ok (.ireturn, 1) := by decide +kernel
theorem dX5_standsNow_0 : decode cX5_standsNow 0 = .ok (.iconst 3, 1) := by decide +kernel
theorem dX5_standsNow_1 : decode cX5_standsNow 1 = .ok (.aload_n 0, 1) := by decide +kernel
theorem dX5_standsNow_2 : decode cX5_standsNow 2 = .ok (.getfield 7, 3) := by decide +kernel
theorem dX5_standsNow_5 : decode cX5_standsNow 5 = .ok (.iload_n 1, 1) := by decide +kernel
theorem dX5_standsNow_6 : decode cX5_standsNow 6 = .ok (.iaload, 1) := by decide +kernel
theorem dX5_standsNow_7 : decode cX5_standsNow 7 = .ok (.imul, 1) := by decide +kernel
theorem dX5_standsNow_8 : decode cX5_standsNow 8 = .ok (.istore 4, 2) := by decide +kernel
theorem dX5_standsNow_10 : decode cX5_standsNow 10 = .ok (.iconst 3, 1) := by decide +kernel
theorem dX5_standsNow_11 : decode cX5_standsNow 11 = .ok (.aload_n 0, 1) := by decide +kernel
theorem dX5_standsNow_12 : decode cX5_standsNow 12 = .ok (.getfield 7, 3) := by decide +kernel
theorem dX5_standsNow_15 : decode cX5_standsNow 15 = .ok (.iload_n 1, 1) := by decide +kernel
theorem dX5_standsNow_16 : decode cX5_standsNow 16 = .ok (.iaload, 1) := by decide +kernel
theorem dX5_standsNow_17 : decode cX5_standsNow 17 = .ok (.imul, 1) := by decide +kernel
theorem dX5_standsNow_18 : decode cX5_standsNow 18 = .ok (.istore 5, 2) := by decide +kernel
theorem dX5_standsNow_20 : decode cX5_standsNow 20 = .ok (.iconst 0, 1) := by decide +kernel
theorem dX5_standsNow_21 : decode cX5_standsNow 21 = .ok (.istore 6, 2) := by decide +kernel
theorem dX5_standsNow_23 : decode cX5_standsNow 23 = .ok (.iload 6, 2) := by decide +kernel
theorem dX5_standsNow_25 : decode cX5_standsNow 25 = .ok (.aload_n 0, 1) := by decide +kernel
theorem dX5_standsNow_26 : decode cX5_standsNow 26 = .ok (.getfield 134, 3) := by decide +kernel
theorem dX5_standsNow_29 : decode cX5_standsNow 29 = .ok (.if_icmp .ge 79, 3) := by decide +kernel
theorem dX5_standsNow_32 : decode cX5_standsNow 32 = .ok (.iload_n 2, 1) := by decide +kernel
theorem dX5_standsNow_33 : decode cX5_standsNow 33 = .ok (.iload 6, 2) := by decide +kernel
theorem dX5_standsNow_35 : decode cX5_standsNow 35 = .ok (.invokestatic 172, 3) := by decide +kernel
theorem dX5_standsNow_38 : decode cX5_standsNow 38 = .ok (.ifCond .eq 23, 3) := by decide +kernel
theorem dX5_standsNow_41 : decode cX5_standsNow 41 = .ok (.aload_n 0, 1) := by decide +kernel
theorem dX5_standsNow_42 : decode cX5_standsNow 42 = .ok (.getfield 13, 3) := by decide +kernel
theorem dX5_standsNow_45 : decode cX5_standsNow 45 = .ok (.iload 6, 2) := by decide +kernel
theorem dX5_standsNow_47 : decode cX5_standsNow 47 = .ok (.iaload, 1) := by decide +kernel
theorem dX5_standsNow_48 : decode cX5_standsNow 48 = .ok (.aload_n 0, 1) := by decide +kernel
theorem dX5_standsNow_49 : decode cX5_standsNow 49 = .ok (.getfield 16, 3) := by decide +kernel
theorem dX5_standsNow_52 : decode cX5_standsNow 52 = .ok (.iload 6, 2) := by decide +kernel
theorem dX5_standsNow_54 : decode cX5_standsNow 54 = .ok (.iaload, 1) := by decide +kernel
theorem dX5_standsNow_55 : decode cX5_standsNow 55 = .ok (.invokestatic 228, 3) := by decide +kernel
theorem dX5_standsNow_58 : decode cX5_standsNow 58 = .ok (.goto 4, 3) := by decide +kernel
theorem dX5_standsNow_61 : decode cX5_standsNow 61 = .ok (.iconst 0, 1) := by decide +kernel
theorem dX5_standsNow_62 : decode cX5_standsNow 62 = .ok (.istore 7, 2) := by decide +kernel
theorem dX5_standsNow_64 : decode cX5_standsNow 64 = .ok (.iload 4, 2) := by decide +kernel
theorem dX5_standsNow_66 : decode cX5_standsNow 66 = .ok (.iload 7, 2) := by decide +kernel
theorem dX5_standsNow_68 : decode cX5_standsNow 68 = .ok (.iconst 0, 1) := by decide +kernel
theorem dX5_standsNow_69 : decode cX5_standsNow 69 = .ok (.aload_n 0, 1) := by decide +kernel
theorem dX5_standsNow_70 : decode cX5_standsNow 70 = .ok (.getfield 48, 3) := by decide +kernel
theorem dX5_standsNow_73 : decode cX5_standsNow 73 = .ok (.iload 6, 2) := by decide +kernel
theorem dX5_standsNow_75 : decode cX5_standsNow 75 = .ok (.iaload, 1) := by decide +kernel
theorem dX5_standsNow_76 : decode cX5_standsNow 76 = .ok (.invokestatic 155, 3) := by decide +kernel
theorem dX5_standsNow_79 : decode cX5_standsNow 79 = .ok (.imul, 1) := by decide +kernel
theorem dX5_standsNow_80 : decode cX5_standsNow 80 = .ok (.iadd, 1) := by decide +kernel
theorem dX5_standsNow_81 : decode cX5_standsNow 81 = .ok (.istore 4, 2) := by decide +kernel
theorem dX5_standsNow_83 : decode cX5_standsNow 83 = .ok (.iload 5, 2) := by decide +kernel
theorem dX5_standsNow_85 : decode cX5_standsNow 85 = .ok (.iload 7, 2) := by decide +kernel
theorem dX5_standsNow_87 : decode cX5_standsNow 87 = .ok (.iconst 1, 1) := by decide +kernel
theorem dX5_standsNow_88 : decode cX5_standsNow 88 = .ok (.aload_n 0, 1) := by decide +kernel
theorem dX5_standsNow_89 : decode cX5_standsNow 89 = .ok (.getfield 48, 3) := by decide +kernel
theorem dX5_standsNow_92 : decode cX5_standsNow 92 = .ok (.iload 6, 2) := by decide +kernel
theorem dX5_standsNow_94 : decode cX5_standsNow 94 = .ok (.iaload, 1) := by decide +kernel
theorem dX5_standsNow_95 : decode cX5_standsNow 95 = .ok (.invokestatic 155, 3) := by decide +kernel
theorem dX5_standsNow_98 : decode cX5_standsNow 98 = .ok (.imul, 1) := by decide +kernel
theorem dX5_standsNow_99 : decode cX5_standsNow 99 = .ok (.iadd, 1) := by decide +kernel
theorem dX5_standsNow_100 : decode cX5_standsNow 100 = .ok (.istore 5, 2) := by decide +kernel
theorem dX5_standsNow_102 : decode cX5_standsNow 102 = .ok (.iinc 6 1, 3) := by decide +kernel
theorem dX5_standsNow_105 : decode cX5_standsNow 105 = .ok (.goto (-82), 3) := by decide +kernel
theorem dX5_standsNow_108 : decode cX5_standsNow 108 = .ok (.iload 4, 2) := by decide +kernel
theorem dX5_standsNow_110 : decode cX5_standsNow 110 = .ok (.invokestatic 162, 3) := by decide +kernel
theorem dX5_standsNow_113 : decode cX5_standsNow 113 = .ok (.iload_n 3, 1) := by decide +kernel
theorem dX5_standsNow_114 : decode cX5_standsNow 114 = .ok (.if_icmp .lt 16, 3) := by decide +kernel
theorem dX5_standsNow_117 : decode cX5_standsNow 117 = .ok (.iload 5, 2) := by decide +kernel
theorem dX5_standsNow_119 : decode cX5_standsNow 119 = .ok (.invokestatic 162, 3) := by decide +kernel
theorem dX5_standsNow_122 : decode cX5_standsNow 122 = .ok (.iload_n 3, 1) := by decide +kernel
theorem dX5_standsNow_123 : decode cX5_standsNow 123 = .ok (.if_icmp .lt 7, 3) := by decide +kernel
theorem dX5_standsNow_126 : decode cX5_standsNow 126 = .ok (.iconst 1, 1) := by decide +kernel
theorem dX5_standsNow_127 : decode cX5_standsNow 127 = .ok (.goto 4, 3) := by decide +kernel
theorem dX5_standsNow_130 : decode cX5_standsNow 130 = .ok (.iconst 0, 1) := by decide +kernel
theorem dX5_standsNow_131 : decode cX5_standsNow 131 = .ok (.ireturn, 1) := by decide +kernel
theorem dX5_nextPlaces_0 : decode cX5_nextPlaces 0 = .ok (.iconst 0, 1) := by decide +kernel
theorem dX5_nextPlaces_1 : decode cX5_nextPlaces 1 = .ok (.istore_n 2, 1) := by decide +kernel
theorem dX5_nextPlaces_2 : decode cX5_nextPlaces 2 = .ok (.iload_n 2, 1) := by decide +kernel
theorem dX5_nextPlaces_3 : decode cX5_nextPlaces 3 = .ok (.aload_n 0, 1) := by decide +kernel
theorem dX5_nextPlaces_4 : decode cX5_nextPlaces 4 = .ok (.getfield 134, 3) := by decide +kernel
theorem dX5_nextPlaces_7 : decode cX5_nextPlaces 7 = .ok (.if_icmp .ge 34, 3) := by decide +kernel
theorem dX5_nextPlaces_10 : decode cX5_nextPlaces 10 = .ok (.iload_n 1, 1) := by decide +kernel
theorem dX5_nextPlaces_11 : decode cX5_nextPlaces 11 = .ok (.iload_n 2, 1) := by decide +kernel
theorem dX5_nextPlaces_12 : decode cX5_nextPlaces 12 = .ok (.invokestatic 172, 3) := by decide +kernel
theorem dX5_nextPlaces_15 : decode cX5_nextPlaces 15 = .ok (.ifCond .eq 13, 3) := by decide +kernel
theorem dX5_nextPlaces_18 : decode cX5_nextPlaces 18 = .ok (.aload_n 0, 1) := by decide +kernel
theorem dX5_nextPlaces_19 : decode cX5_nextPlaces 19 = .ok (.getfield 48, 3) := by decide +kernel
theorem dX5_nextPlaces_22 : decode cX5_nextPlaces 22 = .ok (.iload_n 2, 1) := by decide +kernel
theorem dX5_nextPlaces_23 : decode cX5_nextPlaces 23 = .ok (.iaload, 1) := by decide +kernel
theorem dX5_nextPlaces_24 : decode cX5_nextPlaces 24 = .ok (.iconst 4, 1) := by decide +kernel
theorem dX5_nextPlaces_25 : decode cX5_nextPlaces 25 = .ok (.if_icmp .ne 16, 3) := by decide +kernel
theorem dX5_nextPlaces_28 : decode cX5_nextPlaces 28 = .ok (.aload_n 0, 1) := by decide +kernel
theorem dX5_nextPlaces_29 : decode cX5_nextPlaces 29 = .ok (.getfield 48, 3) := by decide +kernel
theorem dX5_nextPlaces_32 : decode cX5_nextPlaces 32 = .ok (.iload_n 2, 1) := by decide +kernel
theorem dX5_nextPlaces_33 : decode cX5_nextPlaces 33 = .ok (.iconst 0, 1) := by decide +kernel
theorem dX5_nextPlaces_34 : decode cX5_nextPlaces 34 = .ok (.iastore, 1) := by decide +kernel
theorem dX5_nextPlaces_35 : decode cX5_nextPlaces 35 = .ok (.iinc 2 1, 3) := by decide +kernel
theorem dX5_nextPlaces_38 : decode cX5_nextPlaces 38 = .ok (.goto (-36), 3) := by decide +kernel
theorem dX5_nextPlaces_41 : decode cX5_nextPlaces 41 = .ok (.iload_n 2, 1) := by decide +kernel
theorem dX5_nextPlaces_42 : decode cX5_nextPlaces 42 = .ok (.aload_n 0, 1) := by decide +kernel
theorem dX5_nextPlaces_43 : decode cX5_nextPlaces 43 = .ok (.getfield 134, 3) := by decide +kernel
theorem dX5_nextPlaces_46 : decode cX5_nextPlaces 46 = .ok (.if_icmp .ne 5, 3) := by decide +kernel
theorem dX5_nextPlaces_49 : decode cX5_nextPlaces 49 = .ok (.iconst 0, 1) := by decide +kernel
theorem dX5_nextPlaces_50 : decode cX5_nextPlaces 50 = .ok (.ireturn, 1) := by decide +kernel
theorem dX5_nextPlaces_51 : decode cX5_nextPlaces 51 = .ok (.aload_n 0, 1) := by decide +kernel
theorem dX5_nextPlaces_52 : decode cX5_nextPlaces 52 = .ok (.getfield 48, 3) := by decide +kernel
theorem dX5_nextPlaces_55 : decode cX5_nextPlaces 55 = .ok (.iload_n 2, 1) := by decide +kernel
theorem dX5_nextPlaces_56 : decode cX5_nextPlaces 56 = .ok (.dup2, 1) := by decide +kernel
theorem dX5_nextPlaces_57 : decode cX5_nextPlaces 57 = .ok (.iaload, 1) := by decide +kernel
theorem dX5_nextPlaces_58 : decode cX5_nextPlaces 58 = .ok (.iconst 1, 1) := by decide +kernel
theorem dX5_nextPlaces_59 : decode cX5_nextPlaces 59 = .ok (.iadd, 1) := by decide +kernel
theorem dX5_nextPlaces_60 : decode cX5_nextPlaces 60 = .ok (.iastore, 1) := by decide +kernel
theorem dX5_nextPlaces_61 : decode cX5_nextPlaces 61 = .ok (.iconst 1, 1) := by decide +kernel
theorem dX5_nextPlaces_62 : decode cX5_nextPlaces 62 = .ok (.ireturn, 1) := by decide +kernel
theorem dX5_canStand_0 : decode cX5_canStand 0 = .ok (.iconst 0, 1) := by decide +kernel
theorem dX5_canStand_1 : decode cX5_canStand 1 = .ok (.istore 4, 2) := by decide +kernel
theorem dX5_canStand_3 : decode cX5_canStand 3 = .ok (.iload 4, 2) := by decide +kernel
theorem dX5_canStand_5 : decode cX5_canStand 5 = .ok (.iconst 5, 1) := by decide +kernel
theorem dX5_canStand_6 : decode cX5_canStand 6 = .ok (.if_icmp .ge 17, 3) := by decide +kernel
theorem dX5_canStand_9 : decode cX5_canStand 9 = .ok (.aload_n 0, 1) := by decide +kernel
theorem dX5_canStand_10 : decode cX5_canStand 10 = .ok (.getfield 48, 3) := by decide +kernel
theorem dX5_canStand_13 : decode cX5_canStand 13 = .ok (.iload 4, 2) := by decide +kernel
theorem dX5_canStand_15 : decode cX5_canStand 15 = .ok (.iconst 0, 1) := by decide +kernel
theorem dX5_canStand_16 : decode cX5_canStand 16 = .ok (.iastore, 1) := by decide +kernel
theorem dX5_canStand_17 : decode cX5_canStand 17 = .ok (.iinc 4 1, 3) := by decide +kernel
theorem dX5_canStand_20 : decode cX5_canStand 20 = .ok (.goto (-17), 3) := by decide +kernel
theorem dX5_canStand_23 : decode cX5_canStand 23 = .ok (.iconst 1, 1) := by decide +kernel
theorem dX5_canStand_24 : decode cX5_canStand 24 = .ok (.istore 4, 2) := by decide +kernel
theorem dX5_canStand_26 : decode cX5_canStand 26 = .ok (.iload 4, 2) := by decide +kernel
theorem dX5_canStand_28 : decode cX5_canStand 28 = .ok (.ifCond .eq 25, 3) := by decide +kernel
theorem dX5_canStand_31 : decode cX5_canStand 31 = .ok (.aload_n 0, 1) := by decide +kernel
theorem dX5_canStand_32 : decode cX5_canStand 32 = .ok (.iload_n 1, 1) := by decide +kernel
theorem dX5_canStand_33 : decode cX5_canStand 33 = .ok (.iload_n 2, 1) := by decide +kernel
theorem dX5_canStand_34 : decode cX5_canStand 34 = .ok (.iload_n 3, 1) := by decide +kernel
theorem dX5_canStand_35 : decode cX5_canStand 35 = .ok (.invokevirtual 231, 3) := by decide +kernel
theorem dX5_canStand_38 : decode cX5_canStand 38 = .ok (.ifCond .eq 5, 3) := by decide +kernel
theorem dX5_canStand_41 : decode cX5_canStand 41 = .ok (.iconst 1, 1) := by decide +kernel
theorem dX5_canStand_42 : decode cX5_canStand 42 = .ok (.ireturn, 1) := by decide +kernel
theorem dX5_canStand_43 : decode cX5_canStand 43 = .ok (.aload_n 0, 1) := by decide +kernel
theorem dX5_canStand_44 : decode cX5_canStand 44 = .ok (.iload_n 2, 1) := by decide +kernel
theorem dX5_canStand_45 : decode cX5_canStand 45 = .ok (.invokevirtual 234, 3) := by decide +kernel
theorem dX5_canStand_48 : decode cX5_canStand 48 = .ok (.istore 4, 2) := by decide +kernel
theorem dX5_canStand_50 : decode cX5_canStand 50 = .ok (.goto (-24), 3) := by decide +kernel
theorem dX5_canStand_53 : decode cX5_canStand 53 = .ok (.iconst 0, 1) := by decide +kernel
theorem dX5_canStand_54 : decode cX5_canStand 54 = .ok (.ireturn, 1) := by decide +kernel
theorem dX5_isRow_0 : decode cX5_isRow 0 = .ok (.iconst 0, 1) := by decide +kernel
theorem dX5_isRow_1 : decode cX5_isRow 1 = .ok (.istore_n 1, 1) := by decide +kernel
theorem dX5_isRow_2 : decode cX5_isRow 2 = .ok (.aload_n 0, 1) := by decide +kernel
theorem dX5_isRow_3 : decode cX5_isRow 3 = .ok (.iconst 0, 1) := by decide +kernel
theorem dX5_isRow_4 : decode cX5_isRow 4 = .ok (.putfield 237, 3) := by decide +kernel
theorem dX5_isRow_7 : decode cX5_isRow 7 = .ok (.iconst 0, 1) := by decide +kernel
theorem dX5_isRow_8 : decode cX5_isRow 8 = .ok (.istore_n 2, 1) := by decide +kernel
theorem dX5_isRow_9 : decode cX5_isRow 9 = .ok (.iload_n 2, 1) := by decide +kernel
theorem dX5_isRow_10 : decode cX5_isRow 10 = .ok (.aload_n 0, 1) := by decide +kernel
theorem dX5_isRow_11 : decode cX5_isRow 11 = .ok (.getfield 131, 3) := by decide +kernel
theorem dX5_isRow_14 : decode cX5_isRow 14 = .ok (.if_icmp .ge 64, 3) := by decide +kernel
theorem dX5_isRow_17 : decode cX5_isRow 17 = .ok (.iload_n 1, 1) := by decide +kernel
theorem dX5_isRow_18 : decode cX5_isRow 18 = .ok (.aload_n 0, 1) := by decide +kernel
theorem dX5_isRow_19 : decode cX5_isRow 19 = .ok (.getfield 51, 3) := by decide +kernel
theorem dX5_isRow_22 : decode cX5_isRow 22 = .ok (.iload_n 2, 1) := by decide +kernel
theorem dX5_isRow_23 : decode cX5_isRow 23 = .ok (.iaload, 1) := by decide +kernel
theorem dX5_isRow_24 : decode cX5_isRow 24 = .ok (.iand, 1) := by decide +kernel
theorem dX5_isRow_25 : decode cX5_isRow 25 = .ok (.ifCond .eq 5, 3) := by decide +kernel
theorem dX5_isRow_28 : decode cX5_isRow 28 = .ok (.iconst 0, 1) := by decide +kernel
theorem dX5_isRow_29 : decode cX5_isRow 29 = .ok (.ireturn, 1) := by decide +kernel
theorem dX5_isRow_30 : decode cX5_isRow 30 = .ok (.iload_n 1, 1) := by decide +kernel
theorem dX5_isRow_31 : decode cX5_isRow 31 = .ok (.aload_n 0, 1) := by decide +kernel
theorem dX5_isRow_32 : decode cX5_isRow 32 = .ok (.getfield 51, 3) := by decide +kernel
theorem dX5_isRow_35 : decode cX5_isRow 35 = .ok (.iload_n 2, 1) := by decide +kernel
theorem dX5_isRow_36 : decode cX5_isRow 36 = .ok (.iaload, 1) := by decide +kernel
theorem dX5_isRow_37 : decode cX5_isRow 37 = .ok (.ior, 1) := by decide +kernel
theorem dX5_isRow_38 : decode cX5_isRow 38 = .ok (.istore_n 1, 1) := by decide +kernel
theorem dX5_isRow_39 : decode cX5_isRow 39 = .ok (.aload_n 0, 1) := by decide +kernel
theorem dX5_isRow_40 : decode cX5_isRow 40 = .ok (.dup, 1) := by decide +kernel
theorem dX5_isRow_41 : decode cX5_isRow 41 = .ok (.getfield 237, 3) := by decide +kernel
theorem dX5_isRow_44 : decode cX5_isRow 44 = .ok (.aload_n 0, 1) := by decide +kernel
theorem dX5_isRow_45 : decode cX5_isRow 45 = .ok (.getfield 44, 3) := by decide +kernel
theorem dX5_isRow_48 : decode cX5_isRow 48 = .ok (.bipush 32, 2) := by decide +kernel
theorem dX5_isRow_50 : decode cX5_isRow 50 = .ok (.iload_n 2, 1) := by decide +kernel
theorem dX5_isRow_51 : decode cX5_isRow 51 = .ok (.imul, 1) := by decide +kernel
theorem dX5_isRow_52 : decode cX5_isRow 52 = .ok (.aload_n 0, 1) := by decide +kernel
theorem dX5_isRow_53 : decode cX5_isRow 53 = .ok (.getfield 51, 3) := by decide +kernel
theorem dX5_isRow_56 : decode cX5_isRow 56 = .ok (.iload_n 2, 1) := by decide +kernel
theorem dX5_isRow_57 : decode cX5_isRow 57 = .ok (.iaload, 1) := by decide +kernel
theorem dX5_isRow_58 : decode cX5_isRow 58 = .ok (.iadd, 1) := by decide +kernel
theorem dX5_isRow_59 : decode cX5_isRow 59 = .ok (.baload, 1) := by decide +kernel
theorem dX5_isRow_60 : decode cX5_isRow 60 = .ok (.ifCond .eq 7, 3) := by decide +kernel
theorem dX5_isRow_63 : decode cX5_isRow 63 = .ok (.iconst 1, 1) := by decide +kernel
theorem dX5_isRow_64 : decode cX5_isRow 64 = .ok (.goto 4, 3) := by decide +kernel
theorem dX5_isRow_67 : decode cX5_isRow 67 = .ok (.iconst 0, 1) := by decide +kernel
theorem dX5_isRow_68 : decode cX5_isRow 68 = .ok (.iadd, 1) := by decide +kernel
theorem dX5_isRow_69 : decode cX5_isRow 69 = .ok (.putfield 237, 3) := by decide +kernel
theorem dX5_isRow_72 : decode cX5_isRow 72 = .ok (.iinc 2 1, 3) := by decide +kernel
theorem dX5_isRow_75 : decode cX5_isRow 75 = .ok (.goto (-66), 3) := by decide +kernel
theorem dX5_isRow_78 : decode cX5_isRow 78 = .ok (.aload_n 0, 1) := by decide +kernel
theorem dX5_isRow_79 : decode cX5_isRow 79 = .ok (.aload_n 0, 1) := by decide +kernel
theorem dX5_isRow_80 : decode cX5_isRow 80 = .ok (.iload_n 1, 1) := by decide +kernel
theorem dX5_isRow_81 : decode cX5_isRow 81 = .ok (.invokevirtual 192, 3) := by decide +kernel
theorem dX5_isRow_84 : decode cX5_isRow 84 = .ok (.putfield 240, 3) := by decide +kernel
theorem dX5_isRow_87 : decode cX5_isRow 87 = .ok (.iconst 1, 1) := by decide +kernel
theorem dX5_isRow_88 : decode cX5_isRow 88 = .ok (.ireturn, 1) := by decide +kernel
theorem dX5_nextRow_0 : decode cX5_nextRow 0 = .ok (.aload_n 0, 1) := by decide +kernel
theorem dX5_nextRow_1 : decode cX5_nextRow 1 = .ok (.getfield 131, 3) := by decide +kernel
theorem dX5_nextRow_4 : decode cX5_nextRow 4 = .ok (.iconst 1, 1) := by decide +kernel
theorem dX5_nextRow_5 : decode cX5_nextRow 5 = .ok (.isub, 1) := by decide +kernel
theorem dX5_nextRow_6 : decode cX5_nextRow 6 = .ok (.istore_n 1, 1) := by decide +kernel
theorem dX5_nextRow_7 : decode cX5_nextRow 7 = .ok (.iload_n 1, 1) := by decide +kernel
theorem dX5_nextRow_8 : decode cX5_nextRow 8 = .ok (.ifCond .lt 33, 3) := by decide +kernel
theorem dX5_nextRow_11 : decode cX5_nextRow 11 = .ok (.aload_n 0, 1) := by decide +kernel
theorem dX5_nextRow_12 : decode cX5_nextRow 12 = .ok (.getfield 51, 3) := by decide +kernel
theorem dX5_nextRow_15 : decode cX5_nextRow 15 = .ok (.iload_n 1, 1) := by decide +kernel
theorem dX5_nextRow_16 : decode cX5_nextRow 16 = .ok (.iaload, 1) := by decide +kernel
theorem dX5_nextRow_17 : decode cX5_nextRow 17 = .ok (.iconst 1, 1) := by decide +kernel
theorem dX5_nextRow_18 : decode cX5_nextRow 18 = .ok (.aload_n 0, 1) := by decide +kernel
theorem dX5_nextRow_19 : decode cX5_nextRow 19 = .ok (.getfield 134, 3) := by decide +kernel
theorem dX5_nextRow_22 : decode cX5_nextRow 22 = .ok (.ishl, 1) := by decide +kernel
theorem dX5_nextRow_23 : decode cX5_nextRow 23 = .ok (.iconst 1, 1) := by decide +kernel
theorem dX5_nextRow_24 : decode cX5_nextRow 24 = .ok (.isub, 1) := by decide +kernel
theorem dX5_nextRow_25 : decode cX5_nextRow 25 = .ok (.if_icmp .ne 16, 3) := by decide +kernel
theorem dX5_nextRow_28 : decode cX5_nextRow 28 = .ok (.aload_n 0, 1) := by decide +kernel
theorem dX5_nextRow_29 : decode cX5_nextRow 29 = .ok (.getfield 51, 3) := by decide +kernel
theorem dX5_nextRow_32 : decode cX5_nextRow 32 = .ok (.iload_n 1, 1) := by decide +kernel
theorem dX5_nextRow_33 : decode cX5_nextRow 33 = .ok (.iconst 0, 1) := by decide +kernel
theorem dX5_nextRow_34 : decode cX5_nextRow 34 = .ok (.iastore, 1) := by decide +kernel
theorem dX5_nextRow_35 : decode cX5_nextRow 35 = .ok (.iinc 1 (-1), 3) := by decide +kernel
theorem dX5_nextRow_38 : decode cX5_nextRow 38 = .ok (.goto (-31), 3) := by decide +kernel
theorem dX5_nextRow_41 : decode cX5_nextRow 41 = .ok (.iload_n 1, 1) := by decide +kernel
theorem dX5_nextRow_42 : decode cX5_nextRow 42 = .ok (.ifCond .ge 5, 3) := by decide +kernel
theorem dX5_nextRow_45 : decode cX5_nextRow 45 = .ok (.iconst 0, 1) := by decide +kernel
theorem dX5_nextRow_46 : decode cX5_nextRow 46 = .ok (.ireturn, 1) := by decide +kernel
theorem dX5_nextRow_47 : decode cX5_nextRow 47 = .ok (.iconst 0, 1) := by decide +kernel
theorem dX5_nextRow_48 : decode cX5_nextRow 48 = .ok (.istore_n 2, 1) := by decide +kernel
theorem dX5_nextRow_49 : decode cX5_nextRow 49 = .ok (.iconst 0, 1) := by decide +kernel
theorem dX5_nextRow_50 : decode cX5_nextRow 50 = .ok (.istore_n 3, 1) := by decide +kernel
theorem dX5_nextRow_51 : decode cX5_nextRow 51 = .ok (.iload_n 3, 1) := by decide +kernel
theorem dX5_nextRow_52 : decode cX5_nextRow 52 = .ok (.iload_n 1, 1) := by decide +kernel
theorem dX5_nextRow_53 : decode cX5_nextRow 53 = .ok (.if_icmp .ge 18, 3) := by decide +kernel
theorem dX5_nextRow_56 : decode cX5_nextRow 56 = .ok (.iload_n 2, 1) := by decide +kernel
theorem dX5_nextRow_57 : decode cX5_nextRow 57 = .ok (.aload_n 0, 1) := by decide +kernel
theorem dX5_nextRow_58 : decode cX5_nextRow 58 = .ok (.getfield 51, 3) := by decide +kernel
theorem dX5_nextRow_61 : decode cX5_nextRow 61 = .ok (.iload_n 3, 1) := by decide +kernel
theorem dX5_nextRow_62 : decode cX5_nextRow 62 = .ok (.iaload, 1) := by decide +kernel
theorem dX5_nextRow_63 : decode cX5_nextRow 63 = .ok (.ior, 1) := by decide +kernel
theorem dX5_nextRow_64 : decode cX5_nextRow 64 = .ok (.istore_n 2, 1) := by decide +kernel
theorem dX5_nextRow_65 : decode cX5_nextRow 65 = .ok (.iinc 3 1, 3) := by decide +kernel
theorem dX5_nextRow_68 : decode cX5_nextRow 68 = .ok (.goto (-17), 3) := by decide +kernel
theorem dX5_nextRow_71 : decode cX5_nextRow 71 = .ok (.aload_n 0, 1) := by decide +kernel
theorem dX5_nextRow_72 : decode cX5_nextRow 72 = .ok (.getfield 51, 3) := by decide +kernel
theorem dX5_nextRow_75 : decode cX5_nextRow 75 = .ok (.iload_n 1, 1) := by decide +kernel
theorem dX5_nextRow_76 : decode cX5_nextRow 76 = .ok (.dup2, 1) := by decide +kernel
theorem dX5_nextRow_77 : decode cX5_nextRow 77 = .ok (.iaload, 1) := by decide +kernel
theorem dX5_nextRow_78 : decode cX5_nextRow 78 = .ok (.iconst 1, 1) := by decide +kernel
theorem dX5_nextRow_79 : decode cX5_nextRow 79 = .ok (.iadd, 1) := by decide +kernel
theorem dX5_nextRow_80 : decode cX5_nextRow 80 = .ok (.iastore, 1) := by decide +kernel
theorem dX5_nextRow_81 : decode cX5_nextRow 81 = .ok (.aload_n 0, 1) := by decide +kernel
theorem dX5_nextRow_82 : decode cX5_nextRow 82 = .ok (.getfield 51, 3) := by decide +kernel
theorem dX5_nextRow_85 : decode cX5_nextRow 85 = .ok (.iload_n 1, 1) := by decide +kernel
theorem dX5_nextRow_86 : decode cX5_nextRow 86 = .ok (.iaload, 1) := by decide +kernel
theorem dX5_nextRow_87 : decode cX5_nextRow 87 = .ok (.iload_n 2, 1) := by decide +kernel
theorem dX5_nextRow_88 : decode cX5_nextRow 88 = .ok (.iand, 1) := by decide +kernel
theorem dX5_nextRow_89 : decode cX5_nextRow 89 = .ok (.ifCond .eq 33, 3) := by decide +kernel
theorem dX5_nextRow_92 : decode cX5_nextRow 92 = .ok (.aload_n 0, 1) := by decide +kernel
theorem dX5_nextRow_93 : decode cX5_nextRow 93 = .ok (.getfield 51, 3) := by decide +kernel
theorem dX5_nextRow_96 : decode cX5_nextRow 96 = .ok (.iload_n 1, 1) := by decide +kernel
theorem dX5_nextRow_97 : decode cX5_nextRow 97 = .ok (.iaload, 1) := by decide +kernel
theorem dX5_nextRow_98 : decode cX5_nextRow 98 = .ok (.iconst 1, 1) := by decide +kernel
theorem dX5_nextRow_99 : decode cX5_nextRow 99 = .ok (.aload_n 0, 1) := by decide +kernel
theorem dX5_nextRow_100 : decode cX5_nextRow 100 = .ok (.getfield 134, 3) := by decide +kernel
theorem dX5_nextRow_103 : decode cX5_nextRow 103 = .ok (.ishl, 1) := by decide +kernel
theorem dX5_nextRow_104 : decode cX5_nextRow 104 = .ok (.iconst 1, 1) := by decide +kernel
theorem dX5_nextRow_105 : decode cX5_nextRow 105 = .ok (.isub, 1) := by decide +kernel
theorem dX5_nextRow_106 : decode cX5_nextRow 106 = .ok (.if_icmp .ge 16, 3) := by decide +kernel
theorem dX5_nextRow_109 : decode cX5_nextRow 109 = .ok (.aload_n 0, 1) := by decide +kernel
theorem dX5_nextRow_110 : decode cX5_nextRow 110 = .ok (.getfield 51, 3) := by decide +kernel
theorem dX5_nextRow_113 : decode cX5_nextRow 113 = .ok (.iload_n 1, 1) := by decide +kernel
theorem dX5_nextRow_114 : decode cX5_nextRow 114 = .ok (.dup2, 1) := by decide +kernel
theorem dX5_nextRow_115 : decode cX5_nextRow 115 = .ok (.iaload, 1) := by decide +kernel
theorem dX5_nextRow_116 : decode cX5_nextRow 116 = .ok (.iconst 1, 1) := by decide +kernel
theorem dX5_nextRow_117 : decode cX5_nextRow 117 = .ok (.iadd, 1) := by decide +kernel
theorem dX5_nextRow_118 : decode cX5_nextRow 118 = .ok (.iastore, 1) := by decide +kernel
theorem dX5_nextRow_119 : decode cX5_nextRow 119 = .ok (.goto (-38), 3) := by decide +kernel
theorem dX5_nextRow_122 : decode cX5_nextRow 122 = .ok (.iconst 1, 1) := by decide +kernel
theorem dX5_nextRow_123 : decode cX5_nextRow 123 = .ok (.ireturn, 1) := by decide +kernel
theorem dX5_packNow_0 : decode cX5_packNow 0 = .ok (.iconst 0, 1) := by decide +kernel
theorem dX5_packNow_1 : decode cX5_packNow 1 = .ok (.istore_n 3, 1) := by decide +kernel
theorem dX5_packNow_2 : decode cX5_packNow 2 = .ok (.iload_n 3, 1) := by decide +kernel
theorem dX5_packNow_3 : decode cX5_packNow 3 = .ok (.aload_n 0, 1) := by decide +kernel
theorem dX5_packNow_4 : decode cX5_packNow 4 = .ok (.getfield 131, 3) := by decide +kernel
theorem dX5_packNow_7 : decode cX5_packNow 7 = .ok (.if_icmp .ge 49, 3) := by decide +kernel
theorem dX5_packNow_10 : decode cX5_packNow 10 = .ok (.iconst 0, 1) := by decide +kernel
theorem dX5_packNow_11 : decode cX5_packNow 11 = .ok (.istore 4, 2) := by decide +kernel
theorem dX5_packNow_13 : decode cX5_packNow 13 = .ok (.iload 4, 2) := by decide +kernel
theorem dX5_packNow_15 : decode cX5_packNow 15 = .ok (.iconst 1, 1) := by decide +kernel
theorem dX5_packNow_16 : decode cX5_packNow 16 = .ok (.aload_n 0, 1) := by decide +kernel
theorem dX5_packNow_17 : decode cX5_packNow 17 = .ok (.getfield 134, 3) := by decide +kernel
theorem dX5_packNow_20 : decode cX5_packNow 20 = .ok (.ishl, 1) := by decide +kernel
theorem dX5_packNow_21 : decode cX5_packNow 21 = .ok (.if_icmp .ge 29, 3) := by decide +kernel
theorem dX5_packNow_24 : decode cX5_packNow 24 = .ok (.aload_n 0, 1) := by decide +kernel
theorem dX5_packNow_25 : decode cX5_packNow 25 = .ok (.getfield 44, 3) := by decide +kernel
theorem dX5_packNow_28 : decode cX5_packNow 28 = .ok (.bipush 32, 2) := by decide +kernel
theorem dX5_packNow_30 : decode cX5_packNow 30 = .ok (.iload_n 3, 1) := by decide +kernel
theorem dX5_packNow_31 : decode cX5_packNow 31 = .ok (.imul, 1) := by decide +kernel
theorem dX5_packNow_32 : decode cX5_packNow 32 = .ok (.iload 4, 2) := by decide +kernel
theorem dX5_packNow_34 : decode cX5_packNow 34 = .ok (.iadd, 1) := by decide +kernel
theorem dX5_packNow_35 : decode cX5_packNow 35 = .ok (.aload_n 0, 1) := by decide +kernel
theorem dX5_packNow_36 : decode cX5_packNow 36 = .ok (.iload_n 3, 1) := by decide +kernel
theorem dX5_packNow_37 : decode cX5_packNow 37 = .ok (.iload 4, 2) := by decide +kernel
theorem dX5_packNow_39 : decode cX5_packNow 39 = .ok (.iload_n 1, 1) := by decide +kernel
theorem dX5_packNow_40 : decode cX5_packNow 40 = .ok (.invokevirtual 243, 3) := by decide +kernel
theorem dX5_packNow_43 : decode cX5_packNow 43 = .ok (.bastore, 1) := by decide +kernel
theorem dX5_packNow_44 : decode cX5_packNow 44 = .ok (.iinc 4 1, 3) := by decide +kernel
theorem dX5_packNow_47 : decode cX5_packNow 47 = .ok (.goto (-34), 3) := by decide +kernel
theorem dX5_packNow_50 : decode cX5_packNow 50 = .ok (.iinc 3 1, 3) := by decide +kernel
theorem dX5_packNow_53 : decode cX5_packNow 53 = .ok (.goto (-51), 3) := by decide +kernel
theorem dX5_packNow_56 : decode cX5_packNow 56 = .ok (.iconst 0, 1) := by decide +kernel
theorem dX5_packNow_57 : decode cX5_packNow 57 = .ok (.istore_n 3, 1) := by decide +kernel
theorem dX5_packNow_58 : decode cX5_packNow 58 = .ok (.iload_n 3, 1) := by decide +kernel
theorem dX5_packNow_59 : decode cX5_packNow 59 = .ok (.iconst 4, 1) := by decide +kernel
theorem dX5_packNow_60 : decode cX5_packNow 60 = .ok (.if_icmp .ge 23, 3) := by decide +kernel
theorem dX5_packNow_63 : decode cX5_packNow 63 = .ok (.aload_n 0, 1) := by decide +kernel
theorem dX5_packNow_64 : decode cX5_packNow 64 = .ok (.getfield 51, 3) := by decide +kernel
theorem dX5_packNow_67 : decode cX5_packNow 67 = .ok (.iload_n 3, 1) := by decide +kernel
theorem dX5_packNow_68 : decode cX5_packNow 68 = .ok (.iconst 0, 1) := by decide +kernel
theorem dX5_packNow_69 : decode cX5_packNow 69 = .ok (.iastore, 1) := by decide +kernel
theorem dX5_packNow_70 : decode cX5_packNow 70 = .ok (.aload_n 0, 1) := by decide +kernel
theorem dX5_packNow_71 : decode cX5_packNow 71 = .ok (.getfield 54, 3) := by decide +kernel
theorem dX5_packNow_74 : decode cX5_packNow 74 = .ok (.iload_n 3, 1) := by decide +kernel
theorem dX5_packNow_75 : decode cX5_packNow 75 = .ok (.iconst 0, 1) := by decide +kernel
theorem dX5_packNow_76 : decode cX5_packNow 76 = .ok (.iastore, 1) := by decide +kernel
theorem dX5_packNow_77 : decode cX5_packNow 77 = .ok (.iinc 3 1, 3) := by decide +kernel
theorem dX5_packNow_80 : decode cX5_packNow 80 = .ok (.goto (-22), 3) := by decide +kernel
theorem dX5_packNow_83 : decode cX5_packNow 83 = .ok (.iconst (-1), 1) := by decide +kernel
theorem dX5_packNow_84 : decode cX5_packNow 84 = .ok (.istore_n 3, 1) := by decide +kernel
theorem dX5_packNow_85 : decode cX5_packNow 85 = .ok (.ldc 168, 2) := by decide +kernel
theorem dX5_packNow_87 : decode cX5_packNow 87 = .ok (.istore 4, 2) := by decide +kernel
theorem dX5_packNow_89 : decode cX5_packNow 89 = .ok (.iconst 1, 1) := by decide +kernel
theorem dX5_packNow_90 : decode cX5_packNow 90 = .ok (.istore 5, 2) := by decide +kernel
theorem dX5_packNow_92 : decode cX5_packNow 92 = .ok (.iload 5, 2) := by decide +kernel
theorem dX5_packNow_94 : decode cX5_packNow 94 = .ok (.ifCond .eq 87, 3) := by decide +kernel
theorem dX5_packNow_97 : decode cX5_packNow 97 = .ok (.aload_n 0, 1) := by decide +kernel
theorem dX5_packNow_98 : decode cX5_packNow 98 = .ok (.invokevirtual 246, 3) := by decide +kernel
theorem dX5_packNow_101 : decode cX5_packNow 101 = .ok (.ifCond .eq 71, 3) := by decide +kernel
theorem dX5_packNow_104 : decode cX5_packNow 104 = .ok (.aload_n 0, 1) := by decide +kernel
theorem dX5_packNow_105 : decode cX5_packNow 105 = .ok (.getfield 237, 3) := by decide +kernel
theorem dX5_packNow_108 : decode cX5_packNow 108 = .ok (.iload_n 3, 1) := by decide +kernel
theorem dX5_packNow_109 : decode cX5_packNow 109 = .ok (.if_icmp .gt 20, 3) := by decide +kernel
theorem dX5_packNow_112 : decode cX5_packNow 112 = .ok (.aload_n 0, 1) := by decide +kernel
theorem dX5_packNow_113 : decode cX5_packNow 113 = .ok (.getfield 237, 3) := by decide +kernel
theorem dX5_packNow_116 : decode cX5_packNow 116 = .ok (.iload_n 3, 1) := by decide +kernel
theorem dX5_packNow_117 : decode cX5_packNow 117 = .ok (.if_icmp .ne 55, 3) := by decide +kernel
theorem dX5_packNow_120 : decode cX5_packNow 120 = .ok (.aload_n 0, 1) := by decide +kernel
theorem dX5_packNow_121 : decode cX5_packNow 121 = .ok (.getfield 240, 3) := by decide +kernel
theorem dX5_packNow_124 : decode cX5_packNow 124 = .ok (.iload 4, 2) := by decide +kernel
theorem dX5_packNow_126 : decode cX5_packNow 126 = .ok (.if_icmp .ge 46, 3) := by decide +kernel
theorem dX5_packNow_129 : decode cX5_packNow 129 = .ok (.aload_n 0, 1) := by decide +kernel
theorem dX5_packNow_130 : decode cX5_packNow 130 = .ok (.getfield 237, 3) := by decide +kernel
theorem dX5_packNow_133 : decode cX5_packNow 133 = .ok (.istore_n 3, 1) := by decide +kernel
theorem dX5_packNow_134 : decode cX5_packNow 134 = .ok (.aload_n 0, 1) := by decide +kernel
theorem dX5_packNow_135 : decode cX5_packNow 135 = .ok (.getfield 240, 3) := by decide +kernel
theorem dX5_packNow_138 : decode cX5_packNow 138 = .ok (.istore 4, 2) := by decide +kernel
theorem dX5_packNow_140 : decode cX5_packNow 140 = .ok (.iconst 0, 1) := by decide +kernel
theorem dX5_packNow_141 : decode cX5_packNow 141 = .ok (.istore 6, 2) := by decide +kernel
theorem dX5_packNow_143 : decode cX5_packNow 143 = .ok (.iload 6, 2) := by decide +kernel
theorem dX5_packNow_145 : decode cX5_packNow 145 = .ok (.aload_n 0, 1) := by decide +kernel
theorem dX5_packNow_146 : decode cX5_packNow 146 = .ok (.getfield 131, 3) := by decide +kernel
theorem dX5_packNow_149 : decode cX5_packNow 149 = .ok (.if_icmp .ge 23, 3) := by decide +kernel
theorem dX5_packNow_152 : decode cX5_packNow 152 = .ok (.aload_n 0, 1) := by decide +kernel
theorem dX5_packNow_153 : decode cX5_packNow 153 = .ok (.getfield 54, 3) := by decide +kernel
theorem dX5_packNow_156 : decode cX5_packNow 156 = .ok (.iload 6, 2) := by decide +kernel
theorem dX5_packNow_158 : decode cX5_packNow 158 = .ok (.aload_n 0, 1) := by decide +kernel
theorem dX5_packNow_159 : decode cX5_packNow 159 = .ok (.getfield 51, 3) := by decide +kernel
theorem dX5_packNow_162 : decode cX5_packNow 162 = .ok (.iload 6, 2) := by decide +kernel
theorem dX5_packNow_164 : decode cX5_packNow 164 = .ok (.iaload, 1) := by decide +kernel
theorem dX5_packNow_165 : decode cX5_packNow 165 = .ok (.iastore, 1) := by decide +kernel
theorem dX5_packNow_166 : decode cX5_packNow 166 = .ok (.iinc 6 1, 3) := by decide +kernel
theorem dX5_packNow_169 : decode cX5_packNow 169 = .ok (.goto (-26), 3) := by decide +kernel
theorem dX5_packNow_172 : decode cX5_packNow 172 = .ok (.aload_n 0, 1) := by decide +kernel
theorem dX5_packNow_173 : decode cX5_packNow 173 = .ok (.invokevirtual 250, 3) := by decide +kernel
theorem dX5_packNow_176 : decode cX5_packNow 176 = .ok (.istore 5, 2) := by decide +kernel
theorem dX5_packNow_178 : decode cX5_packNow 178 = .ok (.goto (-86), 3) := by decide +kernel
theorem dX5_packNow_181 : decode cX5_packNow 181 = .ok (.iload_n 2, 1) := by decide +kernel
theorem dX5_packNow_182 : decode cX5_packNow 182 = .ok (.ifCond .ne 7, 3) := by decide +kernel
theorem dX5_packNow_185 : decode cX5_packNow 185 = .ok (.iload_n 3, 1) := by decide +kernel
theorem dX5_packNow_186 : decode cX5_packNow 186 = .ok (.goto 22, 3) := by decide +kernel
theorem dX5_packNow_189 : decode cX5_packNow 189 = .ok (.iload_n 2, 1) := by decide +kernel
theorem dX5_packNow_190 : decode cX5_packNow 190 = .ok (.iconst 1, 1) := by decide +kernel
theorem dX5_packNow_191 : decode cX5_packNow 191 = .ok (.if_icmp .ne 8, 3) := by decide +kernel
theorem dX5_packNow_194 : decode cX5_packNow 194 = .ok (.iload 4, 2) := by decide +kernel
theorem dX5_packNow_196 : decode cX5_packNow 196 = .ok (.goto 12, 3) := by decide +kernel
theorem dX5_packNow_199 : decode cX5_packNow 199 = .ok (.aload_n 0, 1) := by decide +kernel
theorem dX5_packNow_200 : decode cX5_packNow 200 = .ok (.getfield 54, 3) := by decide +kernel
theorem dX5_packNow_203 : decode cX5_packNow 203 = .ok (.iload_n 2, 1) := by decide +kernel
theorem dX5_packNow_204 : decode cX5_packNow 204 = .ok (.bipush 10, 2) := by decide +kernel
theorem dX5_packNow_206 : decode cX5_packNow 206 = .ok (.isub, 1) := by decide +kernel
theorem dX5_packNow_207 : decode cX5_packNow 207 = .ok (.iaload, 1) := by decide +kernel
theorem dX5_packNow_208 : decode cX5_packNow 208 = .ok (.ireturn, 1) := by decide +kernel
theorem dX5_pack_0 : decode cX5_pack 0 = .ok (.iload_n 1, 1) := by decide +kernel
theorem dX5_pack_1 : decode cX5_pack 1 = .ok (.iconst 1, 1) := by decide +kernel
theorem dX5_pack_2 : decode cX5_pack 2 = .ok (.bipush 20, 2) := by decide +kernel
theorem dX5_pack_4 : decode cX5_pack 4 = .ok (.invokestatic 96, 3) := by decide +kernel
theorem dX5_pack_7 : decode cX5_pack 7 = .ok (.ifCond .eq 23, 3) := by decide +kernel
theorem dX5_pack_10 : decode cX5_pack 10 = .ok (.iload_n 2, 1) := by decide +kernel
theorem dX5_pack_11 : decode cX5_pack 11 = .ok (.iconst 0, 1) := by decide +kernel
theorem dX5_pack_12 : decode cX5_pack 12 = .ok (.iconst 1, 1) := by decide +kernel
theorem dX5_pack_13 : decode cX5_pack 13 = .ok (.invokestatic 96, 3) := by decide +kernel
theorem dX5_pack_16 : decode cX5_pack 16 = .ok (.ifCond .ne 17, 3) := by decide +kernel
theorem dX5_pack_19 : decode cX5_pack 19 = .ok (.iload_n 2, 1) := by decide +kernel
theorem dX5_pack_20 : decode cX5_pack 20 = .ok (.bipush 10, 2) := by decide +kernel
theorem dX5_pack_22 : decode cX5_pack 22 = .ok (.bipush 13, 2) := by decide +kernel
theorem dX5_pack_24 : decode cX5_pack 24 = .ok (.invokestatic 96, 3) := by decide +kernel
theorem dX5_pack_27 : decode cX5_pack 27 = .ok (.ifCond .ne 6, 3) := by decide +kernel
theorem dX5_pack_30 : decode cX5_pack 30 = .ok (.bipush (-102), 2) := by decide +kernel
theorem dX5_pack_32 : decode cX5_pack 32 = .ok (.ireturn, 1) := by decide +kernel
theorem dX5_pack_33 : decode cX5_pack 33 = .ok (.aload_n 0, 1) := by decide +kernel
theorem dX5_pack_34 : decode cX5_pack 34 = .ok (.getfield 131, 3) := by decide +kernel
theorem dX5_pack_37 : decode cX5_pack 37 = .ok (.ifCond .eq 12, 3) := by decide +kernel
theorem dX5_pack_40 : decode cX5_pack 40 = .ok (.aload_n 0, 1) := by decide +kernel
theorem dX5_pack_41 : decode cX5_pack 41 = .ok (.getfield 253, 3) := by decide +kernel
theorem dX5_pack_44 : decode cX5_pack 44 = .ok (.bipush 20, 2) := by decide +kernel
theorem dX5_pack_46 : decode cX5_pack 46 = .ok (.if_icmp .ne 6, 3) := by decide +kernel
theorem dX5_pack_49 : decode cX5_pack 49 = .ok (.bipush (-103), 2) := by decide +kernel
theorem dX5_pack_51 : decode cX5_pack 51 = .ok (.ireturn, 1) := by decide +kernel
theorem dX5_pack_52 : decode cX5_pack 52 = .ok (.aload_n 0, 1) := by decide +kernel
theorem dX5_pack_53 : decode cX5_pack 53 = .ok (.dup, 1) := by decide +kernel
theorem dX5_pack_54 : decode cX5_pack 54 = .ok (.getfield 253, 3) := by decide +kernel
theorem dX5_pack_57 : decode cX5_pack 57 = .ok (.iconst 1, 1) := by decide +kernel
theorem dX5_pack_58 : decode cX5_pack 58 = .ok (.iadd, 1) := by decide +kernel
theorem dX5_pack_59 : decode cX5_pack 59 = .ok (.putfield 253, 3) := by decide +kernel
theorem dX5_pack_62 : decode cX5_pack 62 = .ok (.aload_n 0, 1) := by decide +kernel
theorem dX5_pack_63 : decode cX5_pack 63 = .ok (.iload_n 1, 1) := by decide +kernel
theorem dX5_pack_64 : decode cX5_pack 64 = .ok (.iload_n 2, 1) := by decide +kernel
theorem dX5_pack_65 : decode cX5_pack 65 = .ok (.invokevirtual 256, 3) := by decide +kernel
theorem dX5_pack_68 : decode cX5_pack 68 = .ok (.ireturn, 1) := by decide +kernel
theorem dX5_mendNow_0 : decode cX5_mendNow 0 = .ok (.iconst (-1), 1) := by decide +kernel
theorem dX5_mendNow_1 : decode cX5_mendNow 1 = .ok (.istore_n 1, 1) := by decide +kernel
theorem dX5_mendNow_2 : decode cX5_mendNow 2 = .ok (.aload_n 0, 1) := by decide +kernel
theorem dX5_mendNow_3 : decode cX5_mendNow 3 = .ok (.invokevirtual 259, 3) := by decide +kernel
theorem dX5_mendNow_6 : decode cX5_mendNow 6 = .ok (.istore_n 2, 1) := by decide +kernel
