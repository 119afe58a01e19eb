theorem dX0_init_0 : decode cX0_init 0 = .ok (.aload_n 0, 1) := by decide +kernel
theorem dX0_init_1 : decode cX0_init 1 = .ok (.invokespecial 3, 3) := by decide +kernel
theorem dX0_init_4 : decode cX0_init 4 = .ok (.aload_n 0, 1) := by decide +kernel
theorem dX0_init_5 : decode cX0_init 5 = .ok (.iconst 0, 1) := by decide +kernel
theorem dX0_init_6 : decode cX0_init 6 = .ok (.putfield 9, 3) := by decide +kernel
theorem dX0_init_9 : decode cX0_init 9 = .ok (.aload_n 0, 1) := by decide +kernel
theorem dX0_init_10 : decode cX0_init 10 = .ok (.iconst 0, 1) := by decide +kernel
theorem dX0_init_11 : decode cX0_init 11 = .ok (.putfield 15, 3) := by decide +kernel
theorem dX0_init_14 : decode cX0_init 14 = .ok (.aload_n 0, 1) := by decide +kernel
theorem dX0_init_15 : decode cX0_init 15 = .ok (.iconst 4, 1) := by decide +kernel
theorem dX0_init_16 : decode cX0_init 16 = .ok (.newarray .int, 2) := by decide +kernel
theorem dX0_init_18 : decode cX0_init 18 = .ok (.putfield 18, 3) := by decide +kernel
theorem dX0_init_21 : decode cX0_init 21 = .ok (.aload_n 0, 1) := by decide +kernel
theorem dX0_init_22 : decode cX0_init 22 = .ok (.iconst 5, 1) := by decide +kernel
theorem dX0_init_23 : decode cX0_init 23 = .ok (.newarray .int, 2) := by decide +kernel
theorem dX0_init_25 : decode cX0_init 25 = .ok (.putfield 22, 3) := by decide +kernel
theorem dX0_init_28 : decode cX0_init 28 = .ok (.aload_n 0, 1) := by decide +kernel
theorem dX0_init_29 : decode cX0_init 29 = .ok (.iconst 5, 1) := by decide +kernel
theorem dX0_init_30 : decode cX0_init 30 = .ok (.newarray .int, 2) := by decide +kernel
theorem dX0_init_32 : decode cX0_init 32 = .ok (.putfield 25, 3) := by decide +kernel
theorem dX0_init_35 : decode cX0_init 35 = .ok (.aload_n 0, 1) := by decide +kernel
theorem dX0_init_36 : decode cX0_init 36 = .ok (.iconst 5, 1) := by decide +kernel
theorem dX0_init_37 : decode cX0_init 37 = .ok (.newarray .int, 2) := by decide +kernel
theorem dX0_init_39 : decode cX0_init 39 = .ok (.putfield 28, 3) := by decide +kernel
theorem dX0_init_42 : decode cX0_init 42 = .ok (.aload_n 0, 1) := by decide +kernel
theorem dX0_init_43 : decode cX0_init 43 = .ok (.iconst 5, 1) := by decide +kernel
theorem dX0_init_44 : decode cX0_init 44 = .ok (.newarray .int, 2) := by decide +kernel
theorem dX0_init_46 : decode cX0_init 46 = .ok (.putfield 31, 3) := by decide +kernel
theorem dX0_init_49 : decode cX0_init 49 = .ok (.aload_n 0, 1) := by decide +kernel
theorem dX0_init_50 : decode cX0_init 50 = .ok (.iconst 5, 1) := by decide +kernel
theorem dX0_init_51 : decode cX0_init 51 = .ok (.newarray .int, 2) := by decide +kernel
theorem dX0_init_53 : decode cX0_init 53 = .ok (.putfield 34, 3) := by decide +kernel
theorem dX0_init_56 : decode cX0_init 56 = .ok (.aload_n 0, 1) := by decide +kernel
theorem dX0_init_57 : decode cX0_init 57 = .ok (.iconst 0, 1) := by decide +kernel
theorem dX0_init_58 : decode cX0_init 58 = .ok (.putfield 37, 3) := by decide +kernel
theorem dX0_init_61 : decode cX0_init 61 = .ok (.aload_n 0, 1) := by decide +kernel
theorem dX0_init_62 : decode cX0_init 62 = .ok (.iconst 0, 1) := by decide +kernel
theorem dX0_init_63 : decode cX0_init 63 = .ok (.putfield 40, 3) := by decide +kernel
theorem dX0_init_66 : decode cX0_init 66 = .ok (.aload_n 0, 1) := by decide +kernel
theorem dX0_init_67 : decode cX0_init 67 = .ok (.iconst 0, 1) := by decide +kernel
theorem dX0_init_68 : decode cX0_init 68 = .ok (.putfield 43, 3) := by decide +kernel
theorem dX0_init_71 : decode cX0_init 71 = .ok (.return_, 1) := by decide +kernel
theorem dX0_clear_0 : decode cX0_clear 0 = .ok (.aload_n 0, 1) := by decide +kernel
theorem dX0_clear_1 : decode cX0_clear 1 = .ok (.iconst 0, 1) := by decide +kernel
theorem dX0_clear_2 : decode cX0_clear 2 = .ok (.iconst 4, 1) := by decide +kernel
theorem dX0_clear_3 : decode cX0_clear 3 = .ok (.iload_n 1, 1) := by decide +kernel
theorem dX0_clear_4 : decode cX0_clear 4 = .ok (.invokestatic 46, 3) := by decide +kernel
theorem dX0_clear_7 : decode cX0_clear 7 = .ok (.invokestatic 52, 3) := by decide +kernel
theorem dX0_clear_10 : decode cX0_clear 10 = .ok (.putfield 9, 3) := by decide +kernel
theorem dX0_clear_13 : decode cX0_clear 13 = .ok (.aload_n 0, 1) := by decide +kernel
theorem dX0_clear_14 : decode cX0_clear 14 = .ok (.iconst 0, 1) := by decide +kernel
theorem dX0_clear_15 : decode cX0_clear 15 = .ok (.iconst 5, 1) := by decide +kernel
theorem dX0_clear_16 : decode cX0_clear 16 = .ok (.iload_n 2, 1) := by decide +kernel
theorem dX0_clear_17 : decode cX0_clear 17 = .ok (.invokestatic 46, 3) := by decide +kernel
theorem dX0_clear_20 : decode cX0_clear 20 = .ok (.invokestatic 52, 3) := by decide +kernel
theorem dX0_clear_23 : decode cX0_clear 23 = .ok (.putfield 15, 3) := by decide +kernel
theorem dX0_clear_26 : decode cX0_clear 26 = .ok (.iconst 0, 1) := by decide +kernel
theorem dX0_clear_27 : decode cX0_clear 27 = .ok (.istore_n 3, 1) := by decide +kernel
theorem dX0_clear_28 : decode cX0_clear 28 = .ok (.iload_n 3, 1) := by decide +kernel
theorem dX0_clear_29 : decode cX0_clear 29 = .ok (.iconst 5, 1) := by decide +kernel
theorem dX0_clear_30 : decode cX0_clear 30 = .ok (.if_icmp .ge 16, 3) := by decide +kernel
theorem dX0_clear_33 : decode cX0_clear 33 = .ok (.aload_n 0, 1) := by decide +kernel
theorem dX0_clear_34 : decode cX0_clear 34 = .ok (.getfield 34, 3) := by decide +kernel
theorem dX0_clear_37 : decode cX0_clear 37 = .ok (.iload_n 3, 1) := by decide +kernel
theorem dX0_clear_38 : decode cX0_clear 38 = .ok (.iconst 0, 1) := by decide +kernel
theorem dX0_clear_39 : decode cX0_clear 39 = .ok (.iastore, 1) := by decide +kernel
theorem dX0_clear_40 : decode cX0_clear 40 = .ok (.iinc 3 1, 3) := by decide +kernel
theorem dX0_clear_43 : decode cX0_clear 43 = .ok (.goto (-15), 3) := by decide +kernel
theorem dX0_clear_46 : decode cX0_clear 46 = .ok (.aload_n 0, 1) := by decide +kernel
theorem dX0_clear_47 : decode cX0_clear 47 = .ok (.iconst 0, 1) := by decide +kernel
theorem dX0_clear_48 : decode cX0_clear 48 = .ok (.putfield 37, 3) := by decide +kernel
theorem dX0_clear_51 : decode cX0_clear 51 = .ok (.aload_n 0, 1) := by decide +kernel
theorem dX0_clear_52 : decode cX0_clear 52 = .ok (.iconst 0, 1) := by decide +kernel
theorem dX0_clear_53 : decode cX0_clear 53 = .ok (.putfield 40, 3) := by decide +kernel
theorem dX0_clear_56 : decode cX0_clear 56 = .ok (.aload_n 0, 1) := by decide +kernel
theorem dX0_clear_57 : decode cX0_clear 57 = .ok (.iconst 0, 1) := by decide +kernel
theorem dX0_clear_58 : decode cX0_clear 58 = .ok (.putfield 43, 3) := by decide +kernel
theorem dX0_clear_61 : decode cX0_clear 61 = .ok (.return_, 1) := by decide +kernel
theorem dX0_copyFrom_0 : decode cX0_copyFrom 0 = .ok (.aload_n 0, 1) := by decide +kernel
theorem dX0_copyFrom_1 : decode cX0_copyFrom 1 = .ok (.aload_n 1, 1) := by decide +kernel
theorem dX0_copyFrom_2 : decode cX0_copyFrom 2 = .ok (.getfield 9, 3) := by decide +kernel
theorem dX0_copyFrom_5 : decode cX0_copyFrom 5 = .ok (.putfield 9, 3) := by decide +kernel
theorem dX0_copyFrom_8 : decode cX0_copyFrom 8 = .ok (.aload_n 0, 1) := by decide +kernel
theorem dX0_copyFrom_9 : decode cX0_copyFrom 9 = .ok (.aload_n 1, 1) := by decide +kernel
theorem dX0_copyFrom_10 : decode cX0_copyFrom 10 = .ok (.getfield 15, 3) := by decide +kernel
theorem dX0_copyFrom_13 : decode cX0_copyFrom 13 = .ok (.putfield 15, 3) := by decide +kernel
theorem dX0_copyFrom_16 : decode cX0_copyFrom 16 = .ok (.iconst 0, 1) := by decide +kernel
theorem dX0_copyFrom_17 : decode cX0_copyFrom 17 = .ok (.istore_n 2, 1) := by decide +kernel
theorem dX0_copyFrom_18 : decode cX0_copyFrom 18 = .ok (.iload_n 2, 1) := by decide +kernel
theorem dX0_copyFrom_19 : decode cX0_copyFrom 19 = .ok (.iconst 4, 1) := by decide +kernel
theorem dX0_copyFrom_20 : decode cX0_copyFrom 20 = .ok (.if_icmp .ge 21, 3) := by decide +kernel
theorem dX0_copyFrom_23 : decode cX0_copyFrom 23 = .ok (.aload_n 0, 1) := by decide +kernel
theorem dX0_copyFrom_24 : decode cX0_copyFrom 24 = .ok (.getfield 18, 3) := by decide +kernel
theorem dX0_copyFrom_27 : decode cX0_copyFrom 27 = .ok (.iload_n 2, 1) := by decide +kernel
theorem dX0_copyFrom_28 : decode cX0_copyFrom 28 = .ok (.aload_n 1, 1) := by decide +kernel
theorem dX0_copyFrom_29 : decode cX0_copyFrom 29 = .ok (.getfield 18, 3) := by decide +kernel
theorem dX0_copyFrom_32 : decode cX0_copyFrom 32 = .ok (.iload_n 2, 1) := by decide +kernel
theorem dX0_copyFrom_33 : decode cX0_copyFrom 33 = .ok (.iaload, 1) := by decide +kernel
theorem dX0_copyFrom_34 : decode cX0_copyFrom 34 = .ok (.iastore, 1) := by decide +kernel
theorem dX0_copyFrom_35 : decode cX0_copyFrom 35 = .ok (.iinc 2 1, 3) := by decide +kernel
theorem dX0_copyFrom_38 : decode cX0_copyFrom 38 = .ok (.goto (-20), 3) := by decide +kernel
theorem dX0_copyFrom_41 : decode cX0_copyFrom 41 = .ok (.iconst 0, 1) := by decide +kernel
theorem dX0_copyFrom_42 : decode cX0_copyFrom 42 = .ok (.istore_n 2, 1) := by decide +kernel
theorem dX0_copyFrom_43 : decode cX0_copyFrom 43 = .ok (.iload_n 2, 1) := by decide +kernel
theorem dX0_copyFrom_44 : decode cX0_copyFrom 44 = .ok (.iconst 5, 1) := by decide +kernel
theorem dX0_copyFrom_45 : decode cX0_copyFrom 45 = .ok (.if_icmp .ge 69, 3) := by decide +kernel
theorem dX0_copyFrom_48 : decode cX0_copyFrom 48 = .ok (.aload_n 0, 1) := by decide +kernel
theorem dX0_copyFrom_49 : decode cX0_copyFrom 49 = .ok (.getfield 22, 3) := by decide +kernel
theorem dX0_copyFrom_52 : decode cX0_copyFrom 52 = .ok (.iload_n 2, 1) := by decide +kernel
theorem dX0_copyFrom_53 : decode cX0_copyFrom 53 = .ok (.aload_n 1, 1) := by decide +kernel
theorem dX0_copyFrom_54 : decode cX0_copyFrom 54 = .ok (.getfield 22, 3) := by decide +kernel
theorem dX0_copyFrom_57 : decode cX0_copyFrom 57 = .ok (.iload_n 2, 1) := by decide +kernel
theorem dX0_copyFrom_58 : decode cX0_copyFrom 58 = .ok (.iaload, 1) := by decide +kernel
theorem dX0_copyFrom_59 : decode cX0_copyFrom 59 = .ok (.iastore, 1) := by decide +kernel
theorem dX0_copyFrom_60 : decode cX0_copyFrom 60 = .ok (.aload_n 0, 1) := by decide +kernel
theorem dX0_copyFrom_61 : decode cX0_copyFrom 61 = .ok (.getfield 25, 3) := by decide +kernel
theorem dX0_copyFrom_64 : decode cX0_copyFrom 64 = .ok (.iload_n 2, 1) := by decide +kernel
theorem dX0_copyFrom_65 : decode cX0_copyFrom 65 = .ok (.aload_n 1, 1) := by decide +kernel
theorem dX0_copyFrom_66 : decode cX0_copyFrom 66 = .ok (.getfield 25, 3) := by decide +kernel
theorem dX0_copyFrom_69 : decode cX0_copyFrom 69 = .ok (.iload_n 2, 1) := by decide +kernel
theorem dX0_copyFrom_70 : decode cX0_copyFrom 70 = .ok (.iaload, 1) := by decide +kernel
theorem dX0_copyFrom_71 : decode cX0_copyFrom 71 = .ok (.iastore, 1) := by decide +kernel
theorem dX0_copyFrom_72 : decode cX0_copyFrom 72 = .ok (.aload_n 0, 1) := by decide +kernel
theorem dX0_copyFrom_73 : decode cX0_copyFrom 73 = .ok (.getfield 28, 3) := by decide +kernel
theorem dX0_copyFrom_76 : decode cX0_copyFrom 76 = .ok (.iload_n 2, 1) := by decide +kernel
theorem dX0_copyFrom_77 : decode cX0_copyFrom 77 = .ok (.aload_n 1, 1) := by decide +kernel
theorem dX0_copyFrom_78 : decode cX0_copyFrom 78 = .ok (.getfield 28, 3) := by decide +kernel
theorem dX0_copyFrom_81 : decode cX0_copyFrom 81 = .ok (.iload_n 2, 1) := by decide +kernel
theorem dX0_copyFrom_82 : decode cX0_copyFrom 82 = .ok (.iaload, 1) := by decide +kernel
theorem dX0_copyFrom_83 : decode cX0_copyFrom 83 = .ok (.iastore, 1) := by decide +kernel
theorem dX0_copyFrom_84 : decode cX0_copyFrom 84 = .ok (.aload_n 0, 1) := by decide +kernel
theorem dX0_copyFrom_85 : decode cX0_copyFrom 85 = .ok (.getfield 31, 3) := by decide +kernel
theorem dX0_copyFrom_88 : decode cX0_copyFrom 88 = .ok (.iload_n 2, 1) := by decide +kernel
theorem dX0_copyFrom_89 : decode cX0_copyFrom 89 = .ok (.aload_n 1, 1) := by decide +kernel
theorem dX0_copyFrom_90 : decode cX0_copyFrom 90 = .ok (.getfield 31, 3) := by decide +kernel
theorem dX0_copyFrom_93 : decode cX0_copyFrom 93 = .ok (.iload_n 2, 1) := by decide +kernel
theorem dX0_copyFrom_94 : decode cX0_copyFrom 94 = .ok (.iaload, 1) := by decide +kernel
theorem dX0_copyFrom_95 : decode cX0_copyFrom 95 = .ok (.iastore, 1) := by decide +kernel
theorem dX0_copyFrom_96 : decode cX0_copyFrom 96 = .ok (.aload_n 0, 1) := by decide +kernel
theorem dX0_copyFrom_97 : decode cX0_copyFrom 97 = .ok (.getfield 34, 3) := by decide +kernel
theorem dX0_copyFrom_100 : decode cX0_copyFrom 100 = .ok (.iload_n 2, 1) := by decide +kernel
theorem dX0_copyFrom_101 : decode cX0_copyFrom 101 = .ok (.aload_n 1, 1) := by decide +kernel
theorem dX0_copyFrom_102 : decode cX0_copyFrom 102 = .ok (.getfield 34, 3) := by decide +kernel
theorem dX0_copyFrom_105 : decode cX0_copyFrom 105 = .ok (.iload_n 2, 1) := by decide +kernel
theorem dX0_copyFrom_106 : decode cX0_copyFrom 106 = .ok (.iaload, 1) := by decide +kernel
theorem dX0_copyFrom_107 : decode cX0_copyFrom 107 = .ok (.iastore, 1) := by decide +kernel
theorem dX0_copyFrom_108 : decode cX0_copyFrom 108 = .ok (.iinc 2 1, 3) := by decide +kernel
theorem dX0_copyFrom_111 : decode cX0_copyFrom 111 = .ok (.goto (-68), 3) := by decide +kernel
theorem dX0_copyFrom_114 : decode cX0_copyFrom 114 = .ok (.aload_n 0, 1) := by decide +kernel
theorem dX0_copyFrom_115 : decode cX0_copyFrom 115 = .ok (.aload_n 1, 1) := by decide +kernel
theorem dX0_copyFrom_116 : decode cX0_copyFrom 116 = .ok (.getfield 37, 3) := by decide +kernel
theorem dX0_copyFrom_119 : decode cX0_copyFrom 119 = .ok (.putfield 37, 3) := by decide +kernel
theorem dX0_copyFrom_122 : decode cX0_copyFrom 122 = .ok (.aload_n 0, 1) := by decide +kernel
theorem dX0_copyFrom_123 : decode cX0_copyFrom 123 = .ok (.aload_n 1, 1) := by decide +kernel
theorem dX0_copyFrom_124 : decode cX0_copyFrom 124 = .ok (.getfield 40, 3) := by decide +kernel
theorem dX0_copyFrom_127 : decode cX0_copyFrom 127 = .ok (.putfield 40, 3) := by decide +kernel
theorem dX0_copyFrom_130 : decode cX0_copyFrom 130 = .ok (.aload_n 0, 1) := by decide +kernel
theorem dX0_copyFrom_131 : decode cX0_copyFrom 131 = .ok (.aload_n 1, 1) := by decide +kernel
theorem dX0_copyFrom_132 : decode cX0_copyFrom 132 = .ok (.getfield 43, 3) := by decide +kernel
theorem dX0_copyFrom_135 : decode cX0_copyFrom 135 = .ok (.putfield 43, 3) := by decide +kernel
theorem dX0_copyFrom_138 : decode cX0_copyFrom 138 = .ok (.return_, 1) := by decide +kernel
theorem dX0_holdBut_0 : decode cX0_holdBut 0 = .ok (.iconst 3, 1) := by decide +kernel
theorem dX0_holdBut_1 : decode cX0_holdBut 1 = .ok (.aload_n 0, 1) := by decide +kernel
theorem dX0_holdBut_2 : decode cX0_holdBut 2 = .ok (.getfield 18, 3) := by decide +kernel
theorem dX0_holdBut_5 : decode cX0_holdBut 5 = .ok (.iload_n 2, 1) := by decide +kernel
theorem dX0_holdBut_6 : decode cX0_holdBut 6 = .ok (.iaload, 1) := by decide +kernel
theorem dX0_holdBut_7 : decode cX0_holdBut 7 = .ok (.imul, 1) := by decide +kernel
theorem dX0_holdBut_8 : decode cX0_holdBut 8 = .ok (.istore 4, 2) := by decide +kernel
theorem dX0_holdBut_10 : decode cX0_holdBut 10 = .ok (.iconst 0, 1) := by decide +kernel
theorem dX0_holdBut_11 : decode cX0_holdBut 11 = .ok (.istore 5, 2) := by decide +kernel
theorem dX0_holdBut_13 : decode cX0_holdBut 13 = .ok (.iload 5, 2) := by decide +kernel
theorem dX0_holdBut_15 : decode cX0_holdBut 15 = .ok (.aload_n 0, 1) := by decide +kernel
theorem dX0_holdBut_16 : decode cX0_holdBut 16 = .ok (.getfield 15, 3) := by decide +kernel
theorem dX0_holdBut_19 : decode cX0_holdBut 19 = .ok (.if_icmp .ge 67, 3) := by decide +kernel
theorem dX0_holdBut_22 : decode cX0_holdBut 22 = .ok (.aload_n 0, 1) := by decide +kernel
theorem dX0_holdBut_23 : decode cX0_holdBut 23 = .ok (.getfield 28, 3) := by decide +kernel
theorem dX0_holdBut_26 : decode cX0_holdBut 26 = .ok (.iload 5, 2) := by decide +kernel
theorem dX0_holdBut_28 : decode cX0_holdBut 28 = .ok (.iaload, 1) := by decide +kernel
theorem dX0_holdBut_29 : decode cX0_holdBut 29 = .ok (.iload_n 2, 1) := by decide +kernel
theorem dX0_holdBut_30 : decode cX0_holdBut 30 = .ok (.if_icmp .ne 50, 3) := by decide +kernel
theorem dX0_holdBut_33 : decode cX0_holdBut 33 = .ok (.iload 5, 2) := by decide +kernel
theorem dX0_holdBut_35 : decode cX0_holdBut 35 = .ok (.iload_n 1, 1) := by decide +kernel
theorem dX0_holdBut_36 : decode cX0_holdBut 36 = .ok (.if_icmp .eq 44, 3) := by decide +kernel
theorem dX0_holdBut_39 : decode cX0_holdBut 39 = .ok (.iload 4, 2) := by decide +kernel
theorem dX0_holdBut_41 : decode cX0_holdBut 41 = .ok (.aload_n 0, 1) := by decide +kernel
theorem dX0_holdBut_42 : decode cX0_holdBut 42 = .ok (.getfield 22, 3) := by decide +kernel
theorem dX0_holdBut_45 : decode cX0_holdBut 45 = .ok (.iload 5, 2) := by decide +kernel
theorem dX0_holdBut_47 : decode cX0_holdBut 47 = .ok (.iaload, 1) := by decide +kernel
theorem dX0_holdBut_48 : decode cX0_holdBut 48 = .ok (.aload_n 0, 1) := by decide +kernel
theorem dX0_holdBut_49 : decode cX0_holdBut 49 = .ok (.getfield 25, 3) := by decide +kernel
theorem dX0_holdBut_52 : decode cX0_holdBut 52 = .ok (.iload 5, 2) := by decide +kernel
theorem dX0_holdBut_54 : decode cX0_holdBut 54 = .ok (.iaload, 1) := by decide +kernel
theorem dX0_holdBut_55 : decode cX0_holdBut 55 = .ok (.aload_n 0, 1) := by decide +kernel
theorem dX0_holdBut_56 : decode cX0_holdBut 56 = .ok (.getfield 34, 3) := by decide +kernel
theorem dX0_holdBut_59 : decode cX0_holdBut 59 = .ok (.iload 5, 2) := by decide +kernel
theorem dX0_holdBut_61 : decode cX0_holdBut 61 = .ok (.iaload, 1) := by decide +kernel
theorem dX0_holdBut_62 : decode cX0_holdBut 62 = .ok (.invokestatic 55, 3) := by decide +kernel
theorem dX0_holdBut_65 : decode cX0_holdBut 65 = .ok (.aload_n 0, 1) := by decide +kernel
theorem dX0_holdBut_66 : decode cX0_holdBut 66 = .ok (.getfield 31, 3) := by decide +kernel
theorem dX0_holdBut_69 : decode cX0_holdBut 69 = .ok (.iload 5, 2) := by decide +kernel
theorem dX0_holdBut_71 : decode cX0_holdBut 71 = .ok (.iaload, 1) := by decide +kernel
theorem dX0_holdBut_72 : decode cX0_holdBut 72 = .ok (.iload_n 3, 1) := by decide +kernel
theorem dX0_holdBut_73 : decode cX0_holdBut 73 = .ok (.invokestatic 59, 3) := by decide +kernel
theorem dX0_holdBut_76 : decode cX0_holdBut 76 = .ok (.imul, 1) := by decide +kernel
theorem dX0_holdBut_77 : decode cX0_holdBut 77 = .ok (.iadd, 1) := by decide +kernel
theorem dX0_holdBut_78 : decode cX0_holdBut 78 = .ok (.istore 4, 2) := by decide +kernel
theorem dX0_holdBut_80 : decode cX0_holdBut 80 = .ok (.iinc 5 1, 3) := by decide +kernel
theorem dX0_holdBut_83 : decode cX0_holdBut 83 = .ok (.goto (-70), 3) := by decide +kernel
theorem dX0_holdBut_86 : decode cX0_holdBut 86 = .ok (.iload 4, 2) := by decide +kernel
theorem dX0_holdBut_88 : decode cX0_holdBut 88 = .ok (.ireturn, 1) := by decide +kernel
theorem dX0_holdIfOunces_0 : decode cX0_holdIfOunces 0 = .ok (.aload_n 0, 1) := by decide +kernel
theorem dX0_holdIfOunces_1 : decode cX0_holdIfOunces 1 = .ok (.getfield 28, 3) := by decide +kernel
theorem dX0_holdIfOunces_4 : decode cX0_holdIfOunces 4 = .ok (.iload_n 1, 1) := by decide +kernel
theorem dX0_holdIfOunces_5 : decode cX0_holdIfOunces 5 = .ok (.iaload, 1) := by decide +kernel
theorem dX0_holdIfOunces_6 : decode cX0_holdIfOunces 6 = .ok (.istore 4, 2) := by decide +kernel
theorem dX0_holdIfOunces_8 : decode cX0_holdIfOunces 8 = .ok (.iload 4, 2) := by decide +kernel
theorem dX0_holdIfOunces_10 : decode cX0_holdIfOunces 10 = .ok (.iconst (-1), 1) := by decide +kernel
theorem dX0_holdIfOunces_11 : decode cX0_holdIfOunces 11 = .ok (.if_icmp .ne 5, 3) := by decide +kernel
theorem dX0_holdIfOunces_14 : decode cX0_holdIfOunces 14 = .ok (.iconst 0, 1) := by decide +kernel
theorem dX0_holdIfOunces_15 : decode cX0_holdIfOunces 15 = .ok (.ireturn, 1) := by decide +kernel
theorem dX0_holdIfOunces_16 : decode cX0_holdIfOunces 16 = .ok (.aload_n 0, 1) := by decide +kernel
theorem dX0_holdIfOunces_17 : decode cX0_holdIfOunces 17 = .ok (.getfield 22, 3) := by decide +kernel
theorem dX0_holdIfOunces_20 : decode cX0_holdIfOunces 20 = .ok (.iload_n 1, 1) := by decide +kernel
theorem dX0_holdIfOunces_21 : decode cX0_holdIfOunces 21 = .ok (.iaload, 1) := by decide +kernel
theorem dX0_holdIfOunces_22 : decode cX0_holdIfOunces 22 = .ok (.iload_n 2, 1) := by decide +kernel
theorem dX0_holdIfOunces_23 : decode cX0_holdIfOunces 23 = .ok (.aload_n 0, 1) := by decide +kernel
theorem dX0_holdIfOunces_24 : decode cX0_holdIfOunces 24 = .ok (.getfield 34, 3) := by decide +kernel
theorem dX0_holdIfOunces_27 : decode cX0_holdIfOunces 27 = .ok (.iload_n 1, 1) := by decide +kernel
theorem dX0_holdIfOunces_28 : decode cX0_holdIfOunces 28 = .ok (.iaload, 1) := by decide +kernel
theorem dX0_holdIfOunces_29 : decode cX0_holdIfOunces 29 = .ok (.invokestatic 55, 3) := by decide +kernel
theorem dX0_holdIfOunces_32 : decode cX0_holdIfOunces 32 = .ok (.istore 5, 2) := by decide +kernel
theorem dX0_holdIfOunces_34 : decode cX0_holdIfOunces 34 = .ok (.aload_n 0, 1) := by decide +kernel
theorem dX0_holdIfOunces_35 : decode cX0_holdIfOunces 35 = .ok (.iload_n 1, 1) := by decide +kernel
theorem dX0_holdIfOunces_36 : decode cX0_holdIfOunces 36 = .ok (.iload 4, 2) := by decide +kernel
theorem dX0_holdIfOunces_38 : decode cX0_holdIfOunces 38 = .ok (.iload_n 3, 1) := by decide +kernel
theorem dX0_holdIfOunces_39 : decode cX0_holdIfOunces 39 = .ok (.invokevirtual 62, 3) := by decide +kernel
theorem dX0_holdIfOunces_42 : decode cX0_holdIfOunces 42 = .ok (.iload 5, 2) := by decide +kernel
theorem dX0_holdIfOunces_44 : decode cX0_holdIfOunces 44 = .ok (.aload_n 0, 1) := by decide +kernel
theorem dX0_holdIfOunces_45 : decode cX0_holdIfOunces 45 = .ok (.getfield 31, 3) := by decide +kernel
theorem dX0_holdIfOunces_48 : decode cX0_holdIfOunces 48 = .ok (.iload_n 1, 1) := by decide +kernel
theorem dX0_holdIfOunces_49 : decode cX0_holdIfOunces 49 = .ok (.iaload, 1) := by decide +kernel
theorem dX0_holdIfOunces_50 : decode cX0_holdIfOunces 50 = .ok (.iload_n 3, 1) := by decide +kernel
theorem dX0_holdIfOunces_51 : decode cX0_holdIfOunces 51 = .ok (.invokestatic 59, 3) := by decide +kernel
theorem dX0_holdIfOunces_54 : decode cX0_holdIfOunces 54 = .ok (.imul, 1) := by decide +kernel
theorem dX0_holdIfOunces_55 : decode cX0_holdIfOunces 55 = .ok (.iadd, 1) := by decide +kernel
theorem dX0_holdIfOunces_56 : decode cX0_holdIfOunces 56 = .ok (.ireturn, 1) := by decide +kernel
theorem dX0_holdIfPut_0 : decode cX0_holdIfPut 0 = .ok (.aload_n 0, 1) := by decide +kernel
theorem dX0_holdIfPut_1 : decode cX0_holdIfPut 1 = .ok (.getfield 22, 3) := by decide +kernel
theorem dX0_holdIfPut_4 : decode cX0_holdIfPut 4 = .ok (.iload_n 1, 1) := by decide +kernel
theorem dX0_holdIfPut_5 : decode cX0_holdIfPut 5 = .ok (.iaload, 1) := by decide +kernel
theorem dX0_holdIfPut_6 : decode cX0_holdIfPut 6 = .ok (.aload_n 0, 1) := by decide +kernel
theorem dX0_holdIfPut_7 : decode cX0_holdIfPut 7 = .ok (.getfield 25, 3) := by decide +kernel
theorem dX0_holdIfPut_10 : decode cX0_holdIfPut 10 = .ok (.iload_n 1, 1) := by decide +kernel
theorem dX0_holdIfPut_11 : decode cX0_holdIfPut 11 = .ok (.iaload, 1) := by decide +kernel
theorem dX0_holdIfPut_12 : decode cX0_holdIfPut 12 = .ok (.iconst 0, 1) := by decide +kernel
theorem dX0_holdIfPut_13 : decode cX0_holdIfPut 13 = .ok (.invokestatic 55, 3) := by decide +kernel
theorem dX0_holdIfPut_16 : decode cX0_holdIfPut 16 = .ok (.istore 5, 2) := by decide +kernel
theorem dX0_holdIfPut_18 : decode cX0_holdIfPut 18 = .ok (.aload_n 0, 1) := by decide +kernel
theorem dX0_holdIfPut_19 : decode cX0_holdIfPut 19 = .ok (.iload_n 1, 1) := by decide +kernel
theorem dX0_holdIfPut_20 : decode cX0_holdIfPut 20 = .ok (.iload_n 2, 1) := by decide +kernel
theorem dX0_holdIfPut_21 : decode cX0_holdIfPut 21 = .ok (.iload 4, 2) := by decide +kernel
theorem dX0_holdIfPut_23 : decode cX0_holdIfPut 23 = .ok (.invokevirtual 62, 3) := by decide +kernel
theorem dX0_holdIfPut_26 : decode cX0_holdIfPut 26 = .ok (.iload 5, 2) := by decide +kernel
theorem dX0_holdIfPut_28 : decode cX0_holdIfPut 28 = .ok (.iload_n 3, 1) := by decide +kernel
theorem dX0_holdIfPut_29 : decode cX0_holdIfPut 29 = .ok (.iload 4, 2) := by decide +kernel
theorem dX0_holdIfPut_31 : decode cX0_holdIfPut 31 = .ok (.invokestatic 59, 3) := by decide +kernel
theorem dX0_holdIfPut_34 : decode cX0_holdIfPut 34 = .ok (.imul, 1) := by decide +kernel
theorem dX0_holdIfPut_35 : decode cX0_holdIfPut 35 = .ok (.iadd, 1) := by decide +kernel
theorem dX0_holdIfPut_36 : decode cX0_holdIfPut 36 = .ok (.ireturn, 1) := by decide +kernel
theorem dX0_leastOf_0 : decode cX0_leastOf 0 = .ok (.aload_n 0, 1) := by decide +kernel
theorem dX0_leastOf_1 : decode cX0_leastOf 1 = .ok (.iconst (-1), 1) := by decide +kernel
theorem dX0_leastOf_2 : decode cX0_leastOf 2 = .ok (.iload_n 1, 1) := by decide +kernel
theorem dX0_leastOf_3 : decode cX0_leastOf 3 = .ok (.iconst 0, 1) := by decide +kernel
theorem dX0_leastOf_4 : decode cX0_leastOf 4 = .ok (.invokevirtual 62, 3) := by decide +kernel
theorem dX0_leastOf_7 : decode cX0_leastOf 7 = .ok (.aload_n 0, 1) := by decide +kernel
theorem dX0_leastOf_8 : decode cX0_leastOf 8 = .ok (.iconst (-1), 1) := by decide +kernel
theorem dX0_leastOf_9 : decode cX0_leastOf 9 = .ok (.iload_n 1, 1) := by decide +kernel
theorem dX0_leastOf_10 : decode cX0_leastOf 10 = .ok (.iconst 1, 1) := by decide +kernel
theorem dX0_leastOf_11 : decode cX0_leastOf 11 = .ok (.invokevirtual 62, 3) := by decide +kernel
theorem dX0_leastOf_14 : decode cX0_leastOf 14 = .ok (.invokestatic 46, 3) := by decide +kernel
theorem dX0_leastOf_17 : decode cX0_leastOf 17 = .ok (.invokestatic 65, 3) := by decide +kernel
theorem dX0_leastOf_20 : decode cX0_leastOf 20 = .ok (.ireturn, 1) := by decide +kernel
theorem dX0_leastOfAll_0 : decode cX0_leastOfAll 0 = .ok (.bipush 99, 2) := by decide +kernel
theorem dX0_leastOfAll_2 : decode cX0_leastOfAll 2 = .ok (.istore_n 1, 1) := by decide +kernel
theorem dX0_leastOfAll_3 : decode cX0_leastOfAll 3 = .ok (.iconst 0, 1) := by decide +kernel
theorem dX0_leastOfAll_4 : decode cX0_leastOfAll 4 = .ok (.istore_n 2, 1) := by decide +kernel
theorem dX0_leastOfAll_5 : decode cX0_leastOfAll 5 = .ok (.iload_n 2, 1) := by decide +kernel
theorem dX0_leastOfAll_6 : decode cX0_leastOfAll 6 = .ok (.aload_n 0, 1) := by decide +kernel
theorem dX0_leastOfAll_7 : decode cX0_leastOfAll 7 = .ok (.getfield 9, 3) := by decide +kernel
theorem dX0_leastOfAll_10 : decode cX0_leastOfAll 10 = .ok (.if_icmp .ge 19, 3) := by decide +kernel
theorem dX0_leastOfAll_13 : decode cX0_leastOfAll 13 = .ok (.iload_n 1, 1) := by decide +kernel
theorem dX0_leastOfAll_14 : decode cX0_leastOfAll 14 = .ok (.aload_n 0, 1) := by decide +kernel
theorem dX0_leastOfAll_15 : decode cX0_leastOfAll 15 = .ok (.iload_n 2, 1) := by decide +kernel
theorem dX0_leastOfAll_16 : decode cX0_leastOfAll 16 = .ok (.invokevirtual 69, 3) := by decide +kernel
theorem dX0_leastOfAll_19 : decode cX0_leastOfAll 19 = .ok (.invokestatic 46, 3) := by decide +kernel
theorem dX0_leastOfAll_22 : decode cX0_leastOfAll 22 = .ok (.istore_n 1, 1) := by decide +kernel
theorem dX0_leastOfAll_23 : decode cX0_leastOfAll 23 = .ok (.iinc 2 1, 3) := by decide +kernel
theorem dX0_leastOfAll_26 : decode cX0_leastOfAll 26 = .ok (.goto (-21), 3) := by decide +kernel
theorem dX0_leastOfAll_29 : decode cX0_leastOfAll 29 = .ok (.iload_n 1, 1) := by decide +kernel
theorem dX0_leastOfAll_30 : decode cX0_leastOfAll 30 = .ok (.ireturn, 1) := by decide +kernel
theorem dX0_leastIfPut_0 : decode cX0_leastIfPut 0 = .ok (.aload_n 0, 1) := by decide +kernel
theorem dX0_leastIfPut_1 : decode cX0_leastIfPut 1 = .ok (.iload_n 1, 1) := by decide +kernel
theorem dX0_leastIfPut_2 : decode cX0_leastIfPut 2 = .ok (.iload_n 2, 1) := by decide +kernel
theorem dX0_leastIfPut_3 : decode cX0_leastIfPut 3 = .ok (.iload_n 3, 1) := by decide +kernel
theorem dX0_leastIfPut_4 : decode cX0_leastIfPut 4 = .ok (.iconst 0, 1) := by decide +kernel
theorem dX0_leastIfPut_5 : decode cX0_leastIfPut 5 = .ok (.invokevirtual 72, 3) := by decide +kernel
theorem dX0_leastIfPut_8 : decode cX0_leastIfPut 8 = .ok (.aload_n 0, 1) := by decide +kernel
theorem dX0_leastIfPut_9 : decode cX0_leastIfPut 9 = .ok (.iload_n 1, 1) := by decide +kernel
theorem dX0_leastIfPut_10 : decode cX0_leastIfPut 10 = .ok (.iload_n 2, 1) := by decide +kernel
theorem dX0_leastIfPut_11 : decode cX0_leastIfPut 11 = .ok (.iload_n 3, 1) := by decide +kernel
theorem dX0_leastIfPut_12 : decode cX0_leastIfPut 12 = .ok (.iconst 1, 1) := by decide +kernel
theorem dX0_leastIfPut_13 : decode cX0_leastIfPut 13 = .ok (.invokevirtual 72, 3) := by decide +kernel
theorem dX0_leastIfPut_16 : decode cX0_leastIfPut 16 = .ok (.invokestatic 46, 3) := by decide +kernel
theorem dX0_leastIfPut_19 : decode cX0_leastIfPut 19 = .ok (.invokestatic 65, 3) := by decide +kernel
theorem dX0_leastIfPut_22 : decode cX0_leastIfPut 22 = .ok (.ireturn, 1) := by decide +kernel
theorem dX0_bestPlace_0 : decode cX0_bestPlace 0 = .ok (.iconst 0, 1) := by decide +kernel
theorem dX0_bestPlace_1 : decode cX0_bestPlace 1 = .ok (.istore_n 3, 1) := by decide +kernel
theorem dX0_bestPlace_2 : decode cX0_bestPlace 2 = .ok (.iconst (-1), 1) := by decide +kernel
theorem dX0_bestPlace_3 : decode cX0_bestPlace 3 = .ok (.istore 4, 2) := by decide +kernel
theorem dX0_bestPlace_5 : decode cX0_bestPlace 5 = .ok (.iconst 0, 1) := by decide +kernel
theorem dX0_bestPlace_6 : decode cX0_bestPlace 6 = .ok (.istore 5, 2) := by decide +kernel
theorem dX0_bestPlace_8 : decode cX0_bestPlace 8 = .ok (.iload 5, 2) := by decide +kernel
theorem dX0_bestPlace_10 : decode cX0_bestPlace 10 = .ok (.iconst 4, 1) := by decide +kernel
theorem dX0_bestPlace_11 : decode cX0_bestPlace 11 = .ok (.if_icmp .gt 33, 3) := by decide +kernel
theorem dX0_bestPlace_14 : decode cX0_bestPlace 14 = .ok (.aload_n 0, 1) := by decide +kernel
theorem dX0_bestPlace_15 : decode cX0_bestPlace 15 = .ok (.iload_n 1, 1) := by decide +kernel
theorem dX0_bestPlace_16 : decode cX0_bestPlace 16 = .ok (.iload_n 2, 1) := by decide +kernel
theorem dX0_bestPlace_17 : decode cX0_bestPlace 17 = .ok (.iload 5, 2) := by decide +kernel
theorem dX0_bestPlace_19 : decode cX0_bestPlace 19 = .ok (.invokevirtual 76, 3) := by decide +kernel
theorem dX0_bestPlace_22 : decode cX0_bestPlace 22 = .ok (.istore 6, 2) := by decide +kernel
theorem dX0_bestPlace_24 : decode cX0_bestPlace 24 = .ok (.iload 6, 2) := by decide +kernel
theorem dX0_bestPlace_26 : decode cX0_bestPlace 26 = .ok (.iload 4, 2) := by decide +kernel
theorem dX0_bestPlace_28 : decode cX0_bestPlace 28 = .ok (.if_icmp .le 10, 3) := by decide +kernel
theorem dX0_bestPlace_31 : decode cX0_bestPlace 31 = .ok (.iload 6, 2) := by decide +kernel
theorem dX0_bestPlace_33 : decode cX0_bestPlace 33 = .ok (.istore 4, 2) := by decide +kernel
theorem dX0_bestPlace_35 : decode cX0_bestPlace 35 = .ok (.iload 5, 2) := by decide +kernel
theorem dX0_bestPlace_37 : decode cX0_bestPlace 37 = .ok (.istore_n 3, 1) := by decide +kernel
theorem dX0_bestPlace_38 : decode cX0_bestPlace 38 = .ok (.iinc 5 1, 3) := by decide +kernel
theorem dX0_bestPlace_41 : decode cX0_bestPlace 41 = .ok (.goto (-33), 3) := by decide +kernel
theorem dX0_bestPlace_44 : decode cX0_bestPlace 44 = .ok (.iload_n 3, 1) := by decide +kernel
theorem dX0_bestPlace_45 : decode cX0_bestPlace 45 = .ok (.ireturn, 1) := by decide +kernel
theorem dX0_leastOfAllIfMended_0 : decode cX0_leastOfAllIfMended 0 = .ok (.aload_n 0, 1) := by decide +kernel
theorem dX0_leastOfAllIfMended_1 : decode cX0_leastOfAllIfMended 1 = .ok (.getfield 25, 3) := by decide +kernel
theorem dX0_leastOfAllIfMended_4 : decode cX0_leastOfAllIfMended 4 = .ok (.iload_n 1, 1) := by decide +kernel
theorem dX0_leastOfAllIfMended_5 : decode cX0_leastOfAllIfMended 5 = .ok (.iaload, 1) := by decide +kernel
theorem dX0_leastOfAllIfMended_6 : decode cX0_leastOfAllIfMended 6 = .ok (.iconst 1, 1) := by decide +kernel
theorem dX0_leastOfAllIfMended_7 : decode cX0_leastOfAllIfMended 7 = .ok (.iadd, 1) := by decide +kernel
theorem dX0_leastOfAllIfMended_8 : decode cX0_leastOfAllIfMended 8 = .ok (.istore_n 2, 1) := by decide +kernel
theorem dX0_leastOfAllIfMended_9 : decode cX0_leastOfAllIfMended 9 = .ok (.aload_n 0, 1) := by decide +kernel
theorem dX0_leastOfAllIfMended_10 : decode cX0_leastOfAllIfMended 10 = .ok (.iload_n 1, 1) := by decide +kernel
theorem dX0_leastOfAllIfMended_11 : decode cX0_leastOfAllIfMended 11 = .ok (.iload_n 2, 1) := by decide +kernel
theorem dX0_leastOfAllIfMended_12 : decode cX0_leastOfAllIfMended 12 = .ok (.iconst 0, 1) := by decide +kernel
theorem dX0_leastOfAllIfMended_13 : decode cX0_leastOfAllIfMended 13 = .ok (.invokevirtual 79, 3) := by decide +kernel
theorem dX0_leastOfAllIfMended_16 : decode cX0_leastOfAllIfMended 16 = .ok (.aload_n 0, 1) := by decide +kernel
theorem dX0_leastOfAllIfMended_17 : decode cX0_leastOfAllIfMended 17 = .ok (.iload_n 1, 1) := by decide +kernel
theorem dX0_leastOfAllIfMended_18 : decode cX0_leastOfAllIfMended 18 = .ok (.iload_n 2, 1) := by decide +kernel
theorem dX0_leastOfAllIfMended_19 : decode cX0_leastOfAllIfMended 19 = .ok (.iconst 1, 1) := by decide +kernel
theorem dX0_leastOfAllIfMended_20 : decode cX0_leastOfAllIfMended 20 = .ok (.invokevirtual 79, 3) := by decide +kernel
theorem dX0_leastOfAllIfMended_23 : decode cX0_leastOfAllIfMended 23 = .ok (.invokestatic 46, 3) := by decide +kernel
theorem dX0_leastOfAllIfMended_26 : decode cX0_leastOfAllIfMended 26 = .ok (.invokestatic 65, 3) := by decide +kernel
theorem dX0_leastOfAllIfMended_29 : decode cX0_leastOfAllIfMended 29 = .ok (.istore_n 3, 1) := by decide +kernel
theorem dX0_leastOfAllIfMended_30 : decode cX0_leastOfAllIfMended 30 = .ok (.iconst 0, 1) := by decide +kernel
theorem dX0_leastOfAllIfMended_31 : decode cX0_leastOfAllIfMended 31 = .ok (.istore 4, 2) := by decide +kernel
theorem dX0_leastOfAllIfMended_33 : decode cX0_leastOfAllIfMended 33 = .ok (.iload 4, 2) := by decide +kernel
theorem dX0_leastOfAllIfMended_35 : decode cX0_leastOfAllIfMended 35 = .ok (.aload_n 0, 1) := by decide +kernel
theorem dX0_leastOfAllIfMended_36 : decode cX0_leastOfAllIfMended 36 = .ok (.getfield 9, 3) := by decide +kernel
theorem dX0_leastOfAllIfMended_39 : decode cX0_leastOfAllIfMended 39 = .ok (.if_icmp .ge 31, 3) := by decide +kernel
theorem dX0_leastOfAllIfMended_42 : decode cX0_leastOfAllIfMended 42 = .ok (.iload 4, 2) := by decide +kernel
theorem dX0_leastOfAllIfMended_44 : decode cX0_leastOfAllIfMended 44 = .ok (.aload_n 0, 1) := by decide +kernel
theorem dX0_leastOfAllIfMended_45 : decode cX0_leastOfAllIfMended 45 = .ok (.getfield 28, 3) := by decide +kernel
theorem dX0_leastOfAllIfMended_48 : decode cX0_leastOfAllIfMended 48 = .ok (.iload_n 1, 1) := by decide +kernel
theorem dX0_leastOfAllIfMended_49 : decode cX0_leastOfAllIfMended 49 = .ok (.iaload, 1) := by decide +kernel
theorem dX0_leastOfAllIfMended_50 : decode cX0_leastOfAllIfMended 50 = .ok (.if_icmp .eq 14, 3) := by decide +kernel
theorem dX0_leastOfAllIfMended_53 : decode cX0_leastOfAllIfMended 53 = .ok (.iload_n 3, 1) := by decide +kernel
theorem dX0_leastOfAllIfMended_54 : decode cX0_leastOfAllIfMended 54 = .ok (.aload_n 0, 1) := by decide +kernel
theorem dX0_leastOfAllIfMended_55 : decode cX0_leastOfAllIfMended 55 = .ok (.iload 4, 2) := by decide +kernel
theorem dX0_leastOfAllIfMended_57 : decode cX0_leastOfAllIfMended 57 = .ok (.invokevirtual 69, 3) := by decide +kernel
theorem dX0_leastOfAllIfMended_60 : decode cX0_leastOfAllIfMended 60 = .ok (.invokestatic 46, 3) := by decide +kernel
theorem dX0_leastOfAllIfMended_63 : decode cX0_leastOfAllIfMended 63 = .ok (.istore_n 3, 1) := by decide +kernel
theorem dX0_leastOfAllIfMended_64 : decode cX0_leastOfAllIfMended 64 = .ok (.iinc 4 1, 3) := by decide +kernel
theorem dX0_leastOfAllIfMended_67 : decode cX0_leastOfAllIfMended 67 = .ok (.goto (-34), 3) := by decide +kernel
theorem dX0_leastOfAllIfMended_70 : decode cX0_leastOfAllIfMended 70 = .ok (.iload_n 3, 1) := by decide +kernel
theorem dX0_leastOfAllIfMended_71 : decode cX0_leastOfAllIfMended 71 = .ok (.ireturn, 1) := by decide +kernel
theorem dX0_bestToMend_0 : decode cX0_bestToMend 0 = .ok (.iconst (-1), 1) := by decide +kernel
theorem dX0_bestToMend_1 : decode cX0_bestToMend 1 = .ok (.istore_n 1, 1) := by decide +kernel
theorem dX0_bestToMend_2 : decode cX0_bestToMend 2 = .ok (.aload_n 0, 1) := by decide +kernel
theorem dX0_bestToMend_3 : decode cX0_bestToMend 3 = .ok (.invokevirtual 82, 3) := by decide +kernel
theorem dX0_bestToMend_6 : decode cX0_bestToMend 6 = .ok (.istore_n 2, 1) := by decide +kernel
theorem dX0_bestToMend_7 : decode cX0_bestToMend 7 = .ok (.iconst 0, 1) := by decide +kernel
theorem dX0_bestToMend_8 : decode cX0_bestToMend 8 = .ok (.istore_n 3, 1) := by decide +kernel
theorem dX0_bestToMend_9 : decode cX0_bestToMend 9 = .ok (.iload_n 3, 1) := by decide +kernel
theorem dX0_bestToMend_10 : decode cX0_bestToMend 10 = .ok (.aload_n 0, 1) := by decide +kernel
theorem dX0_bestToMend_11 : decode cX0_bestToMend 11 = .ok (.getfield 15, 3) := by decide +kernel
theorem dX0_bestToMend_14 : decode cX0_bestToMend 14 = .ok (.if_icmp .ge 48, 3) := by decide +kernel
theorem dX0_bestToMend_17 : decode cX0_bestToMend 17 = .ok (.aload_n 0, 1) := by decide +kernel
theorem dX0_bestToMend_18 : decode cX0_bestToMend 18 = .ok (.getfield 28, 3) := by decide +kernel
theorem dX0_bestToMend_21 : decode cX0_bestToMend 21 = .ok (.iload_n 3, 1) := by decide +kernel
theorem dX0_bestToMend_22 : decode cX0_bestToMend 22 = .ok (.iaload, 1) := by decide +kernel
theorem dX0_bestToMend_23 : decode cX0_bestToMend 23 = .ok (.iconst (-1), 1) := by decide +kernel
theorem dX0_bestToMend_24 : decode cX0_bestToMend 24 = .ok (.if_icmp .eq 32, 3) := by decide +kernel
theorem dX0_bestToMend_27 : decode cX0_bestToMend 27 = .ok (.aload_n 0, 1) := by decide +kernel
theorem dX0_bestToMend_28 : decode cX0_bestToMend 28 = .ok (.getfield 25, 3) := by decide +kernel
theorem dX0_bestToMend_31 : decode cX0_bestToMend 31 = .ok (.iload_n 3, 1) := by decide +kernel
theorem dX0_bestToMend_32 : decode cX0_bestToMend 32 = .ok (.iaload, 1) := by decide +kernel
theorem dX0_bestToMend_33 : decode cX0_bestToMend 33 = .ok (.bipush 9, 2) := by decide +kernel
theorem dX0_bestToMend_35 : decode cX0_bestToMend 35 = .ok (.if_icmp .ge 21, 3) := by decide +kernel
theorem dX0_bestToMend_38 : decode cX0_bestToMend 38 = .ok (.aload_n 0, 1) := by decide +kernel
theorem dX0_bestToMend_39 : decode cX0_bestToMend 39 = .ok (.iload_n 3, 1) := by decide +kernel
theorem dX0_bestToMend_40 : decode cX0_bestToMend 40 = .ok (.invokevirtual 86, 3) := by decide +kernel
theorem dX0_bestToMend_43 : decode cX0_bestToMend 43 = .ok (.istore 4, 2) := by decide +kernel
theorem dX0_bestToMend_45 : decode cX0_bestToMend 45 = .ok (.iload 4, 2) := by decide +kernel
theorem dX0_bestToMend_47 : decode cX0_bestToMend 47 = .ok (.iload_n 2, 1) := by decide +kernel
theorem dX0_bestToMend_48 : decode cX0_bestToMend 48 = .ok (.if_icmp .le 8, 3) := by decide +kernel
theorem dX0_bestToMend_51 : decode cX0_bestToMend 51 = .ok (.iload 4, 2) := by decide +kernel
theorem dX0_bestToMend_53 : decode cX0_bestToMend 53 = .ok (.istore_n 2, 1) := by decide +kernel
theorem dX0_bestToMend_54 : decode cX0_bestToMend 54 = .ok (.iload_n 3, 1) := by decide +kernel
theorem dX0_bestToMend_55 : decode cX0_bestToMend 55 = .ok (.istore_n 1, 1) := by decide +kernel
theorem dX0_bestToMend_56 : decode cX0_bestToMend 56 = .ok (.iinc 3 1, 3) := by decide +kernel
theorem dX0_bestToMend_59 : decode cX0_bestToMend 59 = .ok (.goto (-50), 3) := by decide +kernel
theorem dX0_bestToMend_62 : decode cX0_bestToMend 62 = .ok (.iload_n 1, 1) := by decide +kernel
theorem dX0_bestToMend_63 : decode cX0_bestToMend 63 = .ok (.ireturn, 1) := by decide +kernel
theorem dX0_hourlyWindsStood_0 : decode cX0_hourlyWindsStood 0 = .ok (.iconst 0, 1) := by decide +kernel
theorem dX0_hourlyWindsStood_1 : decode cX0_hourlyWindsStood 1 = .ok (.istore_n 1, 1) := by decide +kernel
theorem dX0_hourlyWindsStood_2 : decode cX0_hourlyWindsStood 2 = .ok (.iconst 0, 1) := by decide +kernel
theorem dX0_hourlyWindsStood_3 : decode cX0_hourlyWindsStood 3 = .ok (.istore_n 2, 1) := by decide +kernel
theorem dX0_hourlyWindsStood_4 : decode cX0_hourlyWindsStood 4 = .ok (.iload_n 2, 1) := by decide +kernel
theorem dX0_hourlyWindsStood_5 : decode cX0_hourlyWindsStood 5 = .ok (.iconst 2, 1) := by decide +kernel
theorem dX0_hourlyWindsStood_6 : decode cX0_hourlyWindsStood 6 = .ok (.if_icmp .ge 52, 3) := by decide +kernel
theorem dX0_hourlyWindsStood_9 : decode cX0_hourlyWindsStood 9 = .ok (.bipush 9, 2) := by decide +kernel
theorem dX0_hourlyWindsStood_11 : decode cX0_hourlyWindsStood 11 = .ok (.istore_n 3, 1) := by decide +kernel
theorem dX0_hourlyWindsStood_12 : decode cX0_hourlyWindsStood 12 = .ok (.iconst 0, 1) := by decide +kernel
theorem dX0_hourlyWindsStood_13 : decode cX0_hourlyWindsStood 13 = .ok (.istore 4, 2) := by decide +kernel
theorem dX0_hourlyWindsStood_15 : decode cX0_hourlyWindsStood 15 = .ok (.iload 4, 2) := by decide +kernel
theorem dX0_hourlyWindsStood_17 : decode cX0_hourlyWindsStood 17 = .ok (.aload_n 0, 1) := by decide +kernel
theorem dX0_hourlyWindsStood_18 : decode cX0_hourlyWindsStood 18 = .ok (.getfield 9, 3) := by decide +kernel
theorem dX0_hourlyWindsStood_21 : decode cX0_hourlyWindsStood 21 = .ok (.if_icmp .ge 25, 3) := by decide +kernel
theorem dX0_hourlyWindsStood_24 : decode cX0_hourlyWindsStood 24 = .ok (.iload_n 3, 1) := by decide +kernel
theorem dX0_hourlyWindsStood_25 : decode cX0_hourlyWindsStood 25 = .ok (.aload_n 0, 1) := by decide +kernel
theorem dX0_hourlyWindsStood_26 : decode cX0_hourlyWindsStood 26 = .ok (.iconst (-1), 1) := by decide +kernel
theorem dX0_hourlyWindsStood_27 : decode cX0_hourlyWindsStood 27 = .ok (.iload 4, 2) := by decide +kernel
theorem dX0_hourlyWindsStood_29 : decode cX0_hourlyWindsStood 29 = .ok (.iload_n 2, 1) := by decide +kernel
theorem dX0_hourlyWindsStood_30 : decode cX0_hourlyWindsStood 30 = .ok (.invokevirtual 62, 3) := by decide +kernel
theorem dX0_hourlyWindsStood_33 : decode cX0_hourlyWindsStood 33 = .ok (.invokestatic 65, 3) := by decide +kernel
theorem dX0_hourlyWindsStood_36 : decode cX0_hourlyWindsStood 36 = .ok (.invokestatic 46, 3) := by decide +kernel
theorem dX0_hourlyWindsStood_39 : decode cX0_hourlyWindsStood 39 = .ok (.istore_n 3, 1) := by decide +kernel
theorem dX0_hourlyWindsStood_40 : decode cX0_hourlyWindsStood 40 = .ok (.iinc 4 1, 3) := by decide +kernel
theorem dX0_hourlyWindsStood_43 : decode cX0_hourlyWindsStood 43 = .ok (.goto (-28), 3) := by decide +kernel
theorem dX0_hourlyWindsStood_46 : decode cX0_hourlyWindsStood 46 = .ok (.iload_n 1, 1) := by decide +kernel
theorem dX0_hourlyWindsStood_47 : decode cX0_hourlyWindsStood 47 = .ok (.iload_n 3, 1) := by decide +kernel
theorem dX0_hourlyWindsStood_48 : decode cX0_hourlyWindsStood 48 = .ok (.iconst 1, 1) := by decide +kernel
theorem dX0_hourlyWindsStood_49 : decode cX0_hourlyWindsStood 49 = .ok (.iadd, 1) := by decide +kernel
theorem dX0_hourlyWindsStood_50 : decode cX0_hourlyWindsStood 50 = .ok (.iadd, 1) := by decide +kernel
theorem dX0_hourlyWindsStood_51 : decode cX0_hourlyWindsStood 51 = .ok (.istore_n 1, 1) := by decide +kernel
theorem dX0_hourlyWindsStood_52 : decode cX0_hourlyWindsStood 52 = .ok (.iinc 2 1, 3) := by decide +kernel
theorem dX0_hourlyWindsStood_55 : decode cX0_hourlyWindsStood 55 = .ok (.goto (-51), 3) := by decide +kernel
theorem dX0_hourlyWindsStood_58 : decode cX0_hourlyWindsStood 58 = .ok (.iload_n 1, 1) := by decide +kernel
theorem dX0_hourlyWindsStood_59 : decode cX0_hourlyWindsStood 59 = .ok (.ireturn, 1) := by decide +kernel
theorem dX0_weightsIn_0 : decode cX0_weightsIn 0 = .ok (.iconst 0, 1) := by decide +kernel
theorem dX0_weightsIn_1 : decode cX0_weightsIn 1 = .ok (.istore_n 2, 1) := by decide +kernel
theorem dX0_weightsIn_2 : decode cX0_weightsIn 2 = .ok (.iconst 0, 1) := by decide +kernel
theorem dX0_weightsIn_3 : decode cX0_weightsIn 3 = .ok (.istore_n 3, 1) := by decide +kernel
theorem dX0_weightsIn_4 : decode cX0_weightsIn 4 = .ok (.iload_n 3, 1) := by decide +kernel
theorem dX0_weightsIn_5 : decode cX0_weightsIn 5 = .ok (.aload_n 0, 1) := by decide +kernel
theorem dX0_weightsIn_6 : decode cX0_weightsIn 6 = .ok (.getfield 15, 3) := by decide +kernel
theorem dX0_weightsIn_9 : decode cX0_weightsIn 9 = .ok (.if_icmp .ge 25, 3) := by decide +kernel
theorem dX0_weightsIn_12 : decode cX0_weightsIn 12 = .ok (.aload_n 0, 1) := by decide +kernel
theorem dX0_weightsIn_13 : decode cX0_weightsIn 13 = .ok (.getfield 28, 3) := by decide +kernel
theorem dX0_weightsIn_16 : decode cX0_weightsIn 16 = .ok (.iload_n 3, 1) := by decide +kernel
theorem dX0_weightsIn_17 : decode cX0_weightsIn 17 = .ok (.iaload, 1) := by decide +kernel
theorem dX0_weightsIn_18 : decode cX0_weightsIn 18 = .ok (.iload_n 1, 1) := by decide +kernel
theorem dX0_weightsIn_19 : decode cX0_weightsIn 19 = .ok (.if_icmp .ne 9, 3) := by decide +kernel
theorem dX0_weightsIn_22 : decode cX0_weightsIn 22 = .ok (.iload_n 2, 1) := by decide +kernel
theorem dX0_weightsIn_23 : decode cX0_weightsIn 23 = .ok (.iconst 1, 1) := by decide +kernel
theorem dX0_weightsIn_24 : decode cX0_weightsIn 24 = .ok (.iload_n 3, 1) := by decide +kernel
theorem dX0_weightsIn_25 : decode cX0_weightsIn 25 = .ok (.ishl, 1) := by decide +kernel
theorem dX0_weightsIn_26 : decode cX0_weightsIn 26 = .ok (.ior, 1) := by decide +kernel
theorem dX0_weightsIn_27 : decode cX0_weightsIn 27 = .ok (.istore_n 2, 1) := by decide +kernel
theorem dX0_weightsIn_28 : decode cX0_weightsIn 28 = .ok (.iinc 3 1, 3) := by decide +kernel
theorem dX0_weightsIn_31 : decode cX0_weightsIn 31 = .ok (.goto (-27), 3) := by decide +kernel
theorem dX0_weightsIn_34 : decode cX0_weightsIn 34 = .ok (.iload_n 2, 1) := by decide +kernel
theorem dX0_weightsIn_35 : decode cX0_weightsIn 35 = .ok (.ireturn, 1) := by decide +kernel
theorem dX0_weightsOnPlain_0 : decode cX0_weightsOnPlain 0 = .ok (.aload_n 0, 1) := by decide +kernel
theorem dX0_weightsOnPlain_1 : decode cX0_weightsOnPlain 1 = .ok (.iconst (-1), 1) := by decide +kernel
theorem dX0_weightsOnPlain_2 : decode cX0_weightsOnPlain 2 = .ok (.invokevirtual 89, 3) := by decide +kernel
theorem dX0_weightsOnPlain_5 : decode cX0_weightsOnPlain 5 = .ok (.invokestatic 92, 3) := by decide +kernel
theorem dX0_weightsOnPlain_8 : decode cX0_weightsOnPlain 8 = .ok (.ireturn, 1) := by decide +kernel
theorem dX0_ouncesIn_0 : decode cX0_ouncesIn 0 = .ok (.iconst 0, 1) := by decide +kernel
theorem dX0_ouncesIn_1 : decode cX0_ouncesIn 1 = .ok (.istore_n 2, 1) := by decide +kernel
theorem dX0_ouncesIn_2 : decode cX0_ouncesIn 2 = .ok (.iconst 0, 1) := by decide +kernel
theorem dX0_ouncesIn_3 : decode cX0_ouncesIn 3 = .ok (.istore_n 3, 1) := by decide +kernel
theorem dX0_ouncesIn_4 : decode cX0_ouncesIn 4 = .ok (.iload_n 3, 1) := by decide +kernel
theorem dX0_ouncesIn_5 : decode cX0_ouncesIn 5 = .ok (.aload_n 0, 1) := by decide +kernel
theorem dX0_ouncesIn_6 : decode cX0_ouncesIn 6 = .ok (.getfield 15, 3) := by decide +kernel
theorem dX0_ouncesIn_9 : decode cX0_ouncesIn 9 = .ok (.if_icmp .ge 28, 3) := by decide +kernel
theorem dX0_ouncesIn_12 : decode cX0_ouncesIn 12 = .ok (.aload_n 0, 1) := by decide +kernel
theorem dX0_ouncesIn_13 : decode cX0_ouncesIn 13 = .ok (.getfield 28, 3) := by decide +kernel
theorem dX0_ouncesIn_16 : decode cX0_ouncesIn 16 = .ok (.iload_n 3, 1) := by decide +kernel
theorem dX0_ouncesIn_17 : decode cX0_ouncesIn 17 = .ok (.iaload, 1) := by decide +kernel
theorem dX0_ouncesIn_18 : decode cX0_ouncesIn 18 = .ok (.iload_n 1, 1) := by decide +kernel
theorem dX0_ouncesIn_19 : decode cX0_ouncesIn 19 = .ok (.if_icmp .ne 12, 3) := by decide +kernel
theorem dX0_ouncesIn_22 : decode cX0_ouncesIn 22 = .ok (.iload_n 2, 1) := by decide +kernel
theorem dX0_ouncesIn_23 : decode cX0_ouncesIn 23 = .ok (.aload_n 0, 1) := by decide +kernel
theorem dX0_ouncesIn_24 : decode cX0_ouncesIn 24 = .ok (.getfield 25, 3) := by decide +kernel
theorem dX0_ouncesIn_27 : decode cX0_ouncesIn 27 = .ok (.iload_n 3, 1) := by decide +kernel
theorem dX0_ouncesIn_28 : decode cX0_ouncesIn 28 = .ok (.iaload, 1) := by decide +kernel
theorem dX0_ouncesIn_29 : decode cX0_ouncesIn 29 = .ok (.iadd, 1) := by decide +kernel
theorem dX0_ouncesIn_30 : decode cX0_ouncesIn 30 = .ok (.istore_n 2, 1) := by decide +kernel
theorem dX0_ouncesIn_31 : decode cX0_ouncesIn 31 = .ok (.iinc 3 1, 3) := by decide +kernel
theorem dX0_ouncesIn_34 : decode cX0_ouncesIn 34 = .ok (.goto (-30), 3) := by decide +kernel
theorem dX0_ouncesIn_37 : decode cX0_ouncesIn 37 = .ok (.iload_n 2, 1) := by decide +kernel
theorem dX0_ouncesIn_38 : decode cX0_ouncesIn 38 = .ok (.ireturn, 1) := by decide +kernel
theorem dX0_ouncesOfAll_0 : decode cX0_ouncesOfAll 0 = .ok (.iconst 0, 1) := by decide +kernel
theorem dX0_ouncesOfAll_1 : decode cX0_ouncesOfAll 1 = .ok (.istore_n 1, 1) := by decide +kernel
theorem dX0_ouncesOfAll_2 : decode cX0_ouncesOfAll 2 = .ok (.iconst 0, 1) := by decide +kernel
theorem dX0_ouncesOfAll_3 : decode cX0_ouncesOfAll 3 = .ok (.istore_n 2, 1) := by decide +kernel
theorem dX0_ouncesOfAll_4 : decode cX0_ouncesOfAll 4 = .ok (.iload_n 2, 1) := by decide +kernel
theorem dX0_ouncesOfAll_5 : decode cX0_ouncesOfAll 5 = .ok (.aload_n 0, 1) := by decide +kernel
theorem dX0_ouncesOfAll_6 : decode cX0_ouncesOfAll 6 = .ok (.getfield 15, 3) := by decide +kernel
theorem dX0_ouncesOfAll_9 : decode cX0_ouncesOfAll 9 = .ok (.if_icmp .ge 18, 3) := by decide +kernel
theorem dX0_ouncesOfAll_12 : decode cX0_ouncesOfAll 12 = .ok (.iload_n 1, 1) := by decide +kernel
theorem dX0_ouncesOfAll_13 : decode cX0_ouncesOfAll 13 = .ok (.aload_n 0, 1) := by decide +kernel
theorem dX0_ouncesOfAll_14 : decode cX0_ouncesOfAll 14 = .ok (.getfield 25, 3) := by decide +kernel
theorem dX0_ouncesOfAll_17 : decode cX0_ouncesOfAll 17 = .ok (.iload_n 2, 1) := by decide +kernel
theorem dX0_ouncesOfAll_18 : decode cX0_ouncesOfAll 18 = .ok (.iaload, 1) := by decide +kernel
theorem dX0_ouncesOfAll_19 : decode cX0_ouncesOfAll 19 = .ok (.iadd, 1) := by decide +kernel
theorem dX0_ouncesOfAll_20 : decode cX0_ouncesOfAll 20 = .ok (.istore_n 1, 1) := by decide +kernel
theorem dX0_ouncesOfAll_21 : decode cX0_ouncesOfAll 21 = .ok (.iinc 2 1, 3) := by decide +kernel
theorem dX0_ouncesOfAll_24 : decode cX0_ouncesOfAll 24 = .ok (.goto (-20), 3) := by decide +kernel
theorem dX0_ouncesOfAll_27 : decode cX0_ouncesOfAll 27 = .ok (.iload_n 1, 1) := by decide +kernel
theorem dX0_ouncesOfAll_28 : decode cX0_ouncesOfAll 28 = .ok (.ireturn, 1) := by decide +kernel
theorem dX0_moveTo_0 : decode cX0_moveTo 0 = .ok (.aload_n 0, 1) := by decide +kernel
theorem dX0_moveTo_1 : decode cX0_moveTo 1 = .ok (.getfield 28, 3) := by decide +kernel
theorem dX0_moveTo_4 : decode cX0_moveTo 4 = .ok (.iload_n 1, 1) := by decide +kernel
theorem dX0_moveTo_5 : decode cX0_moveTo 5 = .ok (.iload_n 2, 1) := by decide +kernel
theorem dX0_moveTo_6 : decode cX0_moveTo 6 = .ok (.iastore, 1) := by decide +kernel
theorem dX0_moveTo_7 : decode cX0_moveTo 7 = .ok (.aload_n 0, 1) := by decide +kernel
theorem dX0_moveTo_8 : decode cX0_moveTo 8 = .ok (.getfield 31, 3) := by decide +kernel
theorem dX0_moveTo_11 : decode cX0_moveTo 11 = .ok (.iload_n 1, 1) := by decide +kernel
theorem dX0_moveTo_12 : decode cX0_moveTo 12 = .ok (.iload_n 3, 1) := by decide +kernel
theorem dX0_moveTo_13 : decode cX0_moveTo 13 = .ok (.iastore, 1) := by decide +kernel
theorem dX0_moveTo_14 : decode cX0_moveTo 14 = .ok (.aload_n 0, 1) := by decide +kernel
theorem dX0_moveTo_15 : decode cX0_moveTo 15 = .ok (.getfield 34, 3) := by decide +kernel
theorem dX0_moveTo_18 : decode cX0_moveTo 18 = .ok (.iload_n 1, 1) := by decide +kernel
theorem dX0_moveTo_19 : decode cX0_moveTo 19 = .ok (.iconst 0, 1) := by decide +kernel
theorem dX0_moveTo_20 : decode cX0_moveTo 20 = .ok (.iastore, 1) := by decide +kernel
theorem dX0_moveTo_21 : decode cX0_moveTo 21 = .ok (.return_, 1) := by decide +kernel
theorem dX0_takeWind_0 : decode cX0_takeWind 0 = .ok (.iconst 0, 1) := by decide +kernel
theorem dX0_takeWind_1 : decode cX0_takeWind 1 = .ok (.istore_n 3, 1) := by decide +kernel
theorem dX0_takeWind_2 : decode cX0_takeWind 2 = .ok (.iconst 0, 1) := by decide +kernel
theorem dX0_takeWind_3 : decode cX0_takeWind 3 = .ok (.istore 4, 2) := by decide +kernel
theorem dX0_takeWind_5 : decode cX0_takeWind 5 = .ok (.iload 4, 2) := by decide +kernel
theorem dX0_takeWind_7 : decode cX0_takeWind 7 = .ok (.aload_n 0, 1) := by decide +kernel
theorem dX0_takeWind_8 : decode cX0_takeWind 8 = .ok (.getfield 9, 3) := by decide +kernel
theorem dX0_takeWind_11 : decode cX0_takeWind 11 = .ok (.if_icmp .ge 31, 3) := by decide +kernel
theorem dX0_takeWind_14 : decode cX0_takeWind 14 = .ok (.aload_n 0, 1) := by decide +kernel
theorem dX0_takeWind_15 : decode cX0_takeWind 15 = .ok (.iconst (-1), 1) := by decide +kernel
theorem dX0_takeWind_16 : decode cX0_takeWind 16 = .ok (.iload 4, 2) := by decide +kernel
theorem dX0_takeWind_18 : decode cX0_takeWind 18 = .ok (.iload_n 1, 1) := by decide +kernel
theorem dX0_takeWind_19 : decode cX0_takeWind 19 = .ok (.invokevirtual 62, 3) := by decide +kernel
theorem dX0_takeWind_22 : decode cX0_takeWind 22 = .ok (.iload_n 2, 1) := by decide +kernel
theorem dX0_takeWind_23 : decode cX0_takeWind 23 = .ok (.invokestatic 97, 3) := by decide +kernel
theorem dX0_takeWind_26 : decode cX0_takeWind 26 = .ok (.ifCond .eq 10, 3) := by decide +kernel
theorem dX0_takeWind_29 : decode cX0_takeWind 29 = .ok (.iload_n 3, 1) := by decide +kernel
theorem dX0_takeWind_30 : decode cX0_takeWind 30 = .ok (.iconst 1, 1) := by decide +kernel
theorem dX0_takeWind_31 : decode cX0_takeWind 31 = .ok (.iload 4, 2) := by decide +kernel
theorem dX0_takeWind_33 : decode cX0_takeWind 33 = .ok (.ishl, 1) := by decide +kernel
theorem dX0_takeWind_34 : decode cX0_takeWind 34 = .ok (.ior, 1) := by decide +kernel
theorem dX0_takeWind_35 : decode cX0_takeWind 35 = .ok (.istore_n 3, 1) := by decide +kernel
theorem dX0_takeWind_36 : decode cX0_takeWind 36 = .ok (.iinc 4 1, 3) := by decide +kernel
theorem dX0_takeWind_39 : decode cX0_takeWind 39 = .ok (.goto (-34), 3) := by decide +kernel
theorem dX0_takeWind_42 : decode cX0_takeWind 42 = .ok (.iload_n 1, 1) := by decide +kernel
theorem dX0_takeWind_43 : decode cX0_takeWind 43 = .ok (.ifCond .ne 7, 3) := by decide +kernel
theorem dX0_takeWind_46 : decode cX0_takeWind 46 = .ok (.iconst 1, 1) := by decide +kernel
theorem dX0_takeWind_47 : decode cX0_takeWind 47 = .ok (.goto 4, 3) := by decide +kernel
theorem dX0_takeWind_50 : decode cX0_takeWind 50 = .ok (.iconst (-1), 1) := by decide +kernel
theorem dX0_takeWind_51 : decode cX0_takeWind 51 = .ok (.istore 4, 2) := by decide +kernel
theorem dX0_takeWind_53 : decode cX0_takeWind 53 = .ok (.iconst 0, 1) := by decide +kernel
theorem dX0_takeWind_54 : decode cX0_takeWind 54 = .ok (.istore 5, 2) := by decide +kernel
theorem dX0_takeWind_56 : decode cX0_takeWind 56 = .ok (.iload 5, 2) := by decide +kernel
theorem dX0_takeWind_58 : decode cX0_takeWind 58 = .ok (.aload_n 0, 1) := by decide +kernel
theorem dX0_takeWind_59 : decode cX0_takeWind 59 = .ok (.getfield 15, 3) := by decide +kernel
theorem dX0_takeWind_62 : decode cX0_takeWind 62 = .ok (.if_icmp .ge 49, 3) := by decide +kernel
theorem dX0_takeWind_65 : decode cX0_takeWind 65 = .ok (.aload_n 0, 1) := by decide +kernel
theorem dX0_takeWind_66 : decode cX0_takeWind 66 = .ok (.getfield 28, 3) := by decide +kernel
theorem dX0_takeWind_69 : decode cX0_takeWind 69 = .ok (.iload 5, 2) := by decide +kernel
theorem dX0_takeWind_71 : decode cX0_takeWind 71 = .ok (.iaload, 1) := by decide +kernel
theorem dX0_takeWind_72 : decode cX0_takeWind 72 = .ok (.iconst (-1), 1) := by decide +kernel
theorem dX0_takeWind_73 : decode cX0_takeWind 73 = .ok (.if_icmp .eq 26, 3) := by decide +kernel
theorem dX0_takeWind_76 : decode cX0_takeWind 76 = .ok (.iload_n 3, 1) := by decide +kernel
theorem dX0_takeWind_77 : decode cX0_takeWind 77 = .ok (.aload_n 0, 1) := by decide +kernel
theorem dX0_takeWind_78 : decode cX0_takeWind 78 = .ok (.getfield 28, 3) := by decide +kernel
theorem dX0_takeWind_81 : decode cX0_takeWind 81 = .ok (.iload 5, 2) := by decide +kernel
theorem dX0_takeWind_83 : decode cX0_takeWind 83 = .ok (.iaload, 1) := by decide +kernel
theorem dX0_takeWind_84 : decode cX0_takeWind 84 = .ok (.ishr, 1) := by decide +kernel
theorem dX0_takeWind_85 : decode cX0_takeWind 85 = .ok (.iconst 1, 1) := by decide +kernel
theorem dX0_takeWind_86 : decode cX0_takeWind 86 = .ok (.iand, 1) := by decide +kernel
theorem dX0_takeWind_87 : decode cX0_takeWind 87 = .ok (.iconst 1, 1) := by decide +kernel
theorem dX0_takeWind_88 : decode cX0_takeWind 88 = .ok (.if_icmp .ne 11, 3) := by decide +kernel
theorem dX0_takeWind_91 : decode cX0_takeWind 91 = .ok (.aload_n 0, 1) := by decide +kernel
theorem dX0_takeWind_92 : decode cX0_takeWind 92 = .ok (.iload 5, 2) := by decide +kernel
theorem dX0_takeWind_94 : decode cX0_takeWind 94 = .ok (.iload 4, 2) := by decide +kernel
theorem dX0_takeWind_96 : decode cX0_takeWind 96 = .ok (.invokevirtual 101, 3) := by decide +kernel
theorem dX0_takeWind_99 : decode cX0_takeWind 99 = .ok (.aload_n 0, 1) := by decide +kernel
theorem dX0_takeWind_100 : decode cX0_takeWind 100 = .ok (.iload 5, 2) := by decide +kernel
theorem dX0_takeWind_102 : decode cX0_takeWind 102 = .ok (.invokevirtual 105, 3) := by decide +kernel
theorem dX0_takeWind_105 : decode cX0_takeWind 105 = .ok (.iinc 5 1, 3) := by decide +kernel
theorem dX0_takeWind_108 : decode cX0_takeWind 108 = .ok (.goto (-52), 3) := by decide +kernel
theorem dX0_takeWind_111 : decode cX0_takeWind 111 = .ok (.iload_n 3, 1) := by decide +kernel
theorem dX0_takeWind_112 : decode cX0_takeWind 112 = .ok (.invokestatic 92, 3) := by decide +kernel
theorem dX0_takeWind_115 : decode cX0_takeWind 115 = .ok (.istore 5, 2) := by decide +kernel
theorem dX0_takeWind_117 : decode cX0_takeWind 117 = .ok (.aload_n 0, 1) := by decide +kernel
theorem dX0_takeWind_118 : decode cX0_takeWind 118 = .ok (.dup, 1) := by decide +kernel
theorem dX0_takeWind_119 : decode cX0_takeWind 119 = .ok (.getfield 37, 3) := by decide +kernel
theorem dX0_takeWind_122 : decode cX0_takeWind 122 = .ok (.iconst 1, 1) := by decide +kernel
theorem dX0_takeWind_123 : decode cX0_takeWind 123 = .ok (.iadd, 1) := by decide +kernel
theorem dX0_takeWind_124 : decode cX0_takeWind 124 = .ok (.putfield 37, 3) := by decide +kernel
theorem dX0_takeWind_127 : decode cX0_takeWind 127 = .ok (.aload_n 0, 1) := by decide +kernel
theorem dX0_takeWind_128 : decode cX0_takeWind 128 = .ok (.dup, 1) := by decide +kernel
theorem dX0_takeWind_129 : decode cX0_takeWind 129 = .ok (.getfield 40, 3) := by decide +kernel
theorem dX0_takeWind_132 : decode cX0_takeWind 132 = .ok (.iload 5, 2) := by decide +kernel
theorem dX0_takeWind_134 : decode cX0_takeWind 134 = .ok (.iadd, 1) := by decide +kernel
theorem dX0_takeWind_135 : decode cX0_takeWind 135 = .ok (.putfield 40, 3) := by decide +kernel
theorem dX0_takeWind_138 : decode cX0_takeWind 138 = .ok (.iload 5, 2) := by decide +kernel
theorem dX0_takeWind_140 : decode cX0_takeWind 140 = .ok (.ireturn, 1) := by decide +kernel
theorem dX0_slide_0 : decode cX0_slide 0 = .ok (.aload_n 0, 1) := by decide +kernel
theorem dX0_slide_1 : decode cX0_slide 1 = .ok (.getfield 31, 3) := by decide +kernel
theorem dX0_slide_4 : decode cX0_slide 4 = .ok (.iload_n 1, 1) := by decide +kernel
theorem dX0_slide_5 : decode cX0_slide 5 = .ok (.iaload, 1) := by decide +kernel
theorem dX0_slide_6 : decode cX0_slide 6 = .ok (.iload_n 2, 1) := by decide +kernel
theorem dX0_slide_7 : decode cX0_slide 7 = .ok (.iadd, 1) := by decide +kernel
theorem dX0_slide_8 : decode cX0_slide 8 = .ok (.istore_n 3, 1) := by decide +kernel
theorem dX0_slide_9 : decode cX0_slide 9 = .ok (.iload_n 3, 1) := by decide +kernel
theorem dX0_slide_10 : decode cX0_slide 10 = .ok (.ifCond .lt 8, 3) := by decide +kernel
theorem dX0_slide_13 : decode cX0_slide 13 = .ok (.iload_n 3, 1) := by decide +kernel
theorem dX0_slide_14 : decode cX0_slide 14 = .ok (.iconst 4, 1) := by decide +kernel
theorem dX0_slide_15 : decode cX0_slide 15 = .ok (.if_icmp .le 23, 3) := by decide +kernel
theorem dX0_slide_18 : decode cX0_slide 18 = .ok (.aload_n 0, 1) := by decide +kernel
theorem dX0_slide_19 : decode cX0_slide 19 = .ok (.iload_n 1, 1) := by decide +kernel
theorem dX0_slide_20 : decode cX0_slide 20 = .ok (.iconst (-1), 1) := by decide +kernel
theorem dX0_slide_21 : decode cX0_slide 21 = .ok (.iconst (-1), 1) := by decide +kernel
theorem dX0_slide_22 : decode cX0_slide 22 = .ok (.invokevirtual 109, 3) := by decide +kernel
theorem dX0_slide_25 : decode cX0_slide 25 = .ok (.aload_n 0, 1) := by decide +kernel
theorem dX0_slide_26 : decode cX0_slide 26 = .ok (.dup, 1) := by decide +kernel
theorem dX0_slide_27 : decode cX0_slide 27 = .ok (.getfield 43, 3) := by decide +kernel
theorem dX0_slide_30 : decode cX0_slide 30 = .ok (.iconst 1, 1) := by decide +kernel
theorem dX0_slide_31 : decode cX0_slide 31 = .ok (.iadd, 1) := by decide +kernel
theorem dX0_slide_32 : decode cX0_slide 32 = .ok (.putfield 43, 3) := by decide +kernel
theorem dX0_slide_35 : decode cX0_slide 35 = .ok (.goto 10, 3) := by decide +kernel
theorem dX0_slide_38 : decode cX0_slide 38 = .ok (.aload_n 0, 1) := by decide +kernel
theorem dX0_slide_39 : decode cX0_slide 39 = .ok (.getfield 31, 3) := by decide +kernel
theorem dX0_slide_42 : decode cX0_slide 42 = .ok (.iload_n 1, 1) := by decide +kernel
theorem dX0_slide_43 : decode cX0_slide 43 = .ok (.iload_n 3, 1) := by decide +kernel
theorem dX0_slide_44 : decode cX0_slide 44 = .ok (.iastore, 1) := by decide +kernel
theorem dX0_slide_45 : decode cX0_slide 45 = .ok (.return_, 1) := by decide +kernel
theorem dX0_weather_0 : decode cX0_weather 0 = .ok (.aload_n 0, 1) := by decide +kernel
theorem dX0_weather_1 : decode cX0_weather 1 = .ok (.getfield 28, 3) := by decide +kernel
theorem dX0_weather_4 : decode cX0_weather 4 = .ok (.iload_n 1, 1) := by decide +kernel
theorem dX0_weather_5 : decode cX0_weather 5 = .ok (.iaload, 1) := by decide +kernel
theorem dX0_weather_6 : decode cX0_weather 6 = .ok (.iconst (-1), 1) := by decide +kernel
theorem dX0_weather_7 : decode cX0_weather 7 = .ok (.if_icmp .ne 4, 3) := by decide +kernel
theorem dX0_weather_10 : decode cX0_weather 10 = .ok (.return_, 1) := by decide +kernel
theorem dX0_weather_11 : decode cX0_weather 11 = .ok (.aload_n 0, 1) := by decide +kernel
theorem dX0_weather_12 : decode cX0_weather 12 = .ok (.getfield 22, 3) := by decide +kernel
theorem dX0_weather_15 : decode cX0_weather 15 = .ok (.iload_n 1, 1) := by decide +kernel
theorem dX0_weather_16 : decode cX0_weather 16 = .ok (.iaload, 1) := by decide +kernel
theorem dX0_weather_17 : decode cX0_weather 17 = .ok (.iconst 2, 1) := by decide +kernel
theorem dX0_weather_18 : decode cX0_weather 18 = .ok (.if_icmp .ne 23, 3) := by decide +kernel
theorem dX0_weather_21 : decode cX0_weather 21 = .ok (.aload_n 0, 1) := by decide +kernel
theorem dX0_weather_22 : decode cX0_weather 22 = .ok (.getfield 25, 3) := by decide +kernel
theorem dX0_weather_25 : decode cX0_weather 25 = .ok (.iload_n 1, 1) := by decide +kernel
theorem dX0_weather_26 : decode cX0_weather 26 = .ok (.iaload, 1) := by decide +kernel
theorem dX0_weather_27 : decode cX0_weather 27 = .ok (.iconst 1, 1) := by decide +kernel
theorem dX0_weather_28 : decode cX0_weather 28 = .ok (.if_icmp .le 13, 3) := by decide +kernel
theorem dX0_weather_31 : decode cX0_weather 31 = .ok (.aload_n 0, 1) := by decide +kernel
theorem dX0_weather_32 : decode cX0_weather 32 = .ok (.getfield 25, 3) := by decide +kernel
theorem dX0_weather_35 : decode cX0_weather 35 = .ok (.iload_n 1, 1) := by decide +kernel
theorem dX0_weather_36 : decode cX0_weather 36 = .ok (.dup2, 1) := by decide +kernel
theorem dX0_weather_37 : decode cX0_weather 37 = .ok (.iaload, 1) := by decide +kernel
theorem dX0_weather_38 : decode cX0_weather 38 = .ok (.iconst 1, 1) := by decide +kernel
theorem dX0_weather_39 : decode cX0_weather 39 = .ok (.isub, 1) := by decide +kernel
theorem dX0_weather_40 : decode cX0_weather 40 = .ok (.iastore, 1) := by decide +kernel
theorem dX0_weather_41 : decode cX0_weather 41 = .ok (.aload_n 0, 1) := by decide +kernel
theorem dX0_weather_42 : decode cX0_weather 42 = .ok (.getfield 22, 3) := by decide +kernel
theorem dX0_weather_45 : decode cX0_weather 45 = .ok (.iload_n 1, 1) := by decide +kernel
theorem dX0_weather_46 : decode cX0_weather 46 = .ok (.iaload, 1) := by decide +kernel
theorem dX0_weather_47 : decode cX0_weather 47 = .ok (.iconst 3, 1) := by decide +kernel
theorem dX0_weather_48 : decode cX0_weather 48 = .ok (.if_icmp .ne 23, 3) := by decide +kernel
theorem dX0_weather_51 : decode cX0_weather 51 = .ok (.aload_n 0, 1) := by decide +kernel
theorem dX0_weather_52 : decode cX0_weather 52 = .ok (.getfield 34, 3) := by decide +kernel
theorem dX0_weather_55 : decode cX0_weather 55 = .ok (.iload_n 1, 1) := by decide +kernel
theorem dX0_weather_56 : decode cX0_weather 56 = .ok (.iaload, 1) := by decide +kernel
theorem dX0_weather_57 : decode cX0_weather 57 = .ok (.iconst 3, 1) := by decide +kernel
theorem dX0_weather_58 : decode cX0_weather 58 = .ok (.if_icmp .ge 13, 3) := by decide +kernel
theorem dX0_weather_61 : decode cX0_weather 61 = .ok (.aload_n 0, 1) := by decide +kernel
theorem dX0_weather_62 : decode cX0_weather 62 = .ok (.getfield 34, 3) := by decide +kernel
theorem dX0_weather_65 : decode cX0_weather 65 = .ok (.iload_n 1, 1) := by decide +kernel
theorem dX0_weather_66 : decode cX0_weather 66 = .ok (.dup2, 1) := by decide +kernel
theorem dX0_weather_67 : decode cX0_weather 67 = .ok (.iaload, 1) := by decide +kernel
theorem dX0_weather_68 : decode cX0_weather 68 = .ok (.iconst 1, 1) := by decide +kernel
theorem dX0_weather_69 : decode cX0_weather 69 = .ok (.iadd, 1) := by decide +kernel
theorem dX0_weather_70 : decode cX0_weather 70 = .ok (.iastore, 1) := by decide +kernel
theorem dX0_weather_71 : decode cX0_weather 71 = .ok (.return_, 1) := by decide +kernel
theorem dX1_init_0 : decode cX1_init 0 = .ok (.aload_n 0, 1) := by decide +kernel
theorem dX1_init_1 : decode cX1_init 1 = .ok (.invokespecial 3, 3) := by decide +kernel
theorem dX1_init_4 : decode cX1_init 4 = .ok (.aload_n 0, 1) := by decide +kernel
theorem dX1_init_5 : decode cX1_init 5 = .ok (.iconst 4, 1) := by decide +kernel
theorem dX1_init_6 : decode cX1_init 6 = .ok (.newarray .int, 2) := by decide +kernel
theorem dX1_init_8 : decode cX1_init 8 = .ok (.putfield 9, 3) := by decide +kernel
theorem dX1_init_11 : decode cX1_init 11 = .ok (.aload_n 0, 1) := by decide +kernel
theorem dX1_init_12 : decode cX1_init 12 = .ok (.iconst (-1), 1) := by decide +kernel
theorem dX1_init_13 : decode cX1_init 13 = .ok (.putfield 15, 3) := by decide +kernel
theorem dX1_init_16 : decode cX1_init 16 = .ok (.aload_n 0, 1) := by decide +kernel
theorem dX1_init_17 : decode cX1_init 17 = .ok (.iconst 0, 1) := by decide +kernel
theorem dX1_init_18 : decode cX1_init 18 = .ok (.putfield 19, 3) := by decide +kernel
theorem dX1_init_21 : decode cX1_init 21 = .ok (.aload_n 0, 1) := by decide +kernel
theorem dX1_init_22 : decode cX1_init 22 = .ok (.iconst 4, 1) := by decide +kernel
theorem dX1_init_23 : decode cX1_init 23 = .ok (.newarray .int, 2) := by decide +kernel
theorem dX1_init_25 : decode cX1_init 25 = .ok (.putfield 22, 3) := by decide +kernel
theorem dX1_init_28 : decode cX1_init 28 = .ok (.aload_n 0, 1) := by decide +kernel
theorem dX1_init_29 : decode cX1_init 29 = .ok (.bipush 32, 2) := by decide +kernel
theorem dX1_init_31 : decode cX1_init 31 = .ok (.newarray .int, 2) := by decide +kernel
theorem dX1_init_33 : decode cX1_init 33 = .ok (.putfield 25, 3) := by decide +kernel
theorem dX1_init_36 : decode cX1_init 36 = .ok (.aload_n 0, 1) := by decide +kernel
theorem dX1_init_37 : decode cX1_init 37 = .ok (.bipush 32, 2) := by decide +kernel
theorem dX1_init_39 : decode cX1_init 39 = .ok (.newarray .int, 2) := by decide +kernel
theorem dX1_init_41 : decode cX1_init 41 = .ok (.putfield 28, 3) := by decide +kernel
theorem dX1_init_44 : decode cX1_init 44 = .ok (.return_, 1) := by decide +kernel
theorem dX1_search_0 : decode cX1_search 0 = .ok (.iconst 0, 1) := by decide +kernel
theorem dX1_search_1 : decode cX1_search 1 = .ok (.istore_n 3, 1) := by decide +kernel
theorem dX1_search_2 : decode cX1_search 2 = .ok (.iload_n 3, 1) := by decide +kernel
theorem dX1_search_3 : decode cX1_search 3 = .ok (.bipush 32, 2) := by decide +kernel
theorem dX1_search_5 : decode cX1_search 5 = .ok (.if_icmp .ge 15, 3) := by decide +kernel
theorem dX1_search_8 : decode cX1_search 8 = .ok (.aload_n 0, 1) := by decide +kernel
theorem dX1_search_9 : decode cX1_search 9 = .ok (.aload_n 1, 1) := by decide +kernel
theorem dX1_search_10 : decode cX1_search 10 = .ok (.iload_n 3, 1) := by decide +kernel
theorem dX1_search_11 : decode cX1_search 11 = .ok (.invokevirtual 31, 3) := by decide +kernel
theorem dX1_search_14 : decode cX1_search 14 = .ok (.iinc 3 1, 3) := by decide +kernel
theorem dX1_search_17 : decode cX1_search 17 = .ok (.goto (-15), 3) := by decide +kernel
theorem dX1_search_20 : decode cX1_search 20 = .ok (.iconst 0, 1) := by decide +kernel
theorem dX1_search_21 : decode cX1_search 21 = .ok (.istore_n 3, 1) := by decide +kernel
theorem dX1_search_22 : decode cX1_search 22 = .ok (.iload_n 3, 1) := by decide +kernel
theorem dX1_search_23 : decode cX1_search 23 = .ok (.iconst 4, 1) := by decide +kernel
theorem dX1_search_24 : decode cX1_search 24 = .ok (.if_icmp .ge 23, 3) := by decide +kernel
theorem dX1_search_27 : decode cX1_search 27 = .ok (.aload_n 0, 1) := by decide +kernel
theorem dX1_search_28 : decode cX1_search 28 = .ok (.getfield 22, 3) := by decide +kernel
theorem dX1_search_31 : decode cX1_search 31 = .ok (.iload_n 3, 1) := by decide +kernel
theorem dX1_search_32 : decode cX1_search 32 = .ok (.iconst 0, 1) := by decide +kernel
theorem dX1_search_33 : decode cX1_search 33 = .ok (.iastore, 1) := by decide +kernel
theorem dX1_search_34 : decode cX1_search 34 = .ok (.aload_n 0, 1) := by decide +kernel
theorem dX1_search_35 : decode cX1_search 35 = .ok (.getfield 9, 3) := by decide +kernel
theorem dX1_search_38 : decode cX1_search 38 = .ok (.iload_n 3, 1) := by decide +kernel
theorem dX1_search_39 : decode cX1_search 39 = .ok (.iconst 0, 1) := by decide +kernel
theorem dX1_search_40 : decode cX1_search 40 = .ok (.iastore, 1) := by decide +kernel
theorem dX1_search_41 : decode cX1_search 41 = .ok (.iinc 3 1, 3) := by decide +kernel
theorem dX1_search_44 : decode cX1_search 44 = .ok (.goto (-22), 3) := by decide +kernel
theorem dX1_search_47 : decode cX1_search 47 = .ok (.aload_n 0, 1) := by decide +kernel
theorem dX1_search_48 : decode cX1_search 48 = .ok (.iconst (-1), 1) := by decide +kernel
theorem dX1_search_49 : decode cX1_search 49 = .ok (.putfield 15, 3) := by decide +kernel
theorem dX1_search_52 : decode cX1_search 52 = .ok (.aload_n 0, 1) := by decide +kernel
theorem dX1_search_53 : decode cX1_search 53 = .ok (.iconst 0, 1) := by decide +kernel
theorem dX1_search_54 : decode cX1_search 54 = .ok (.putfield 19, 3) := by decide +kernel
theorem dX1_search_57 : decode cX1_search 57 = .ok (.aload_n 0, 1) := by decide +kernel
theorem dX1_search_58 : decode cX1_search 58 = .ok (.aload_n 1, 1) := by decide +kernel
theorem dX1_search_59 : decode cX1_search 59 = .ok (.iload_n 2, 1) := by decide +kernel
theorem dX1_search_60 : decode cX1_search 60 = .ok (.iconst 0, 1) := by decide +kernel
theorem dX1_search_61 : decode cX1_search 61 = .ok (.iconst 1, 1) := by decide +kernel
theorem dX1_search_62 : decode cX1_search 62 = .ok (.aload_n 1, 1) := by decide +kernel
theorem dX1_search_63 : decode cX1_search 63 = .ok (.getfield 35, 3) := by decide +kernel
theorem dX1_search_66 : decode cX1_search 66 = .ok (.ishl, 1) := by decide +kernel
theorem dX1_search_67 : decode cX1_search 67 = .ok (.iconst 1, 1) := by decide +kernel
theorem dX1_search_68 : decode cX1_search 68 = .ok (.isub, 1) := by decide +kernel
theorem dX1_search_69 : decode cX1_search 69 = .ok (.iconst 0, 1) := by decide +kernel
theorem dX1_search_70 : decode cX1_search 70 = .ok (.iconst 0, 1) := by decide +kernel
theorem dX1_search_71 : decode cX1_search 71 = .ok (.invokevirtual 40, 3) := by decide +kernel
theorem dX1_search_74 : decode cX1_search 74 = .ok (.return_, 1) := by decide +kernel
theorem dX1_weigh_0 : decode cX1_weigh 0 = .ok (.iconst 0, 1) := by decide +kernel
theorem dX1_weigh_1 : decode cX1_weigh 1 = .ok (.istore_n 3, 1) := by decide +kernel
theorem dX1_weigh_2 : decode cX1_weigh 2 = .ok (.iconst 0, 1) := by decide +kernel
theorem dX1_weigh_3 : decode cX1_weigh 3 = .ok (.istore 4, 2) := by decide +kernel
theorem dX1_weigh_5 : decode cX1_weigh 5 = .ok (.iconst 0, 1) := by decide +kernel
theorem dX1_weigh_6 : decode cX1_weigh 6 = .ok (.istore 5, 2) := by decide +kernel
theorem dX1_weigh_8 : decode cX1_weigh 8 = .ok (.iload 5, 2) := by decide +kernel
theorem dX1_weigh_10 : decode cX1_weigh 10 = .ok (.aload_n 1, 1) := by decide +kernel
theorem dX1_weigh_11 : decode cX1_weigh 11 = .ok (.getfield 35, 3) := by decide +kernel
theorem dX1_weigh_14 : decode cX1_weigh 14 = .ok (.if_icmp .ge 52, 3) := by decide +kernel
theorem dX1_weigh_17 : decode cX1_weigh 17 = .ok (.iload_n 2, 1) := by decide +kernel
theorem dX1_weigh_18 : decode cX1_weigh 18 = .ok (.iload 5, 2) := by decide +kernel
theorem dX1_weigh_20 : decode cX1_weigh 20 = .ok (.ishr, 1) := by decide +kernel
theorem dX1_weigh_21 : decode cX1_weigh 21 = .ok (.iconst 1, 1) := by decide +kernel
theorem dX1_weigh_22 : decode cX1_weigh 22 = .ok (.iand, 1) := by decide +kernel
theorem dX1_weigh_23 : decode cX1_weigh 23 = .ok (.iconst 1, 1) := by decide +kernel
theorem dX1_weigh_24 : decode cX1_weigh 24 = .ok (.if_icmp .ne 36, 3) := by decide +kernel
theorem dX1_weigh_27 : decode cX1_weigh 27 = .ok (.iload_n 3, 1) := by decide +kernel
theorem dX1_weigh_28 : decode cX1_weigh 28 = .ok (.aload_n 1, 1) := by decide +kernel
theorem dX1_weigh_29 : decode cX1_weigh 29 = .ok (.getfield 44, 3) := by decide +kernel
theorem dX1_weigh_32 : decode cX1_weigh 32 = .ok (.iload 5, 2) := by decide +kernel
theorem dX1_weigh_34 : decode cX1_weigh 34 = .ok (.iaload, 1) := by decide +kernel
theorem dX1_weigh_35 : decode cX1_weigh 35 = .ok (.iadd, 1) := by decide +kernel
theorem dX1_weigh_36 : decode cX1_weigh 36 = .ok (.istore_n 3, 1) := by decide +kernel
theorem dX1_weigh_37 : decode cX1_weigh 37 = .ok (.iload 4, 2) := by decide +kernel
theorem dX1_weigh_39 : decode cX1_weigh 39 = .ok (.aload_n 1, 1) := by decide +kernel
theorem dX1_weigh_40 : decode cX1_weigh 40 = .ok (.getfield 47, 3) := by decide +kernel
theorem dX1_weigh_43 : decode cX1_weigh 43 = .ok (.iload 5, 2) := by decide +kernel
theorem dX1_weigh_45 : decode cX1_weigh 45 = .ok (.iaload, 1) := by decide +kernel
theorem dX1_weigh_46 : decode cX1_weigh 46 = .ok (.aload_n 1, 1) := by decide +kernel
theorem dX1_weigh_47 : decode cX1_weigh 47 = .ok (.getfield 44, 3) := by decide +kernel
theorem dX1_weigh_50 : decode cX1_weigh 50 = .ok (.iload 5, 2) := by decide +kernel
theorem dX1_weigh_52 : decode cX1_weigh 52 = .ok (.iaload, 1) := by decide +kernel
theorem dX1_weigh_53 : decode cX1_weigh 53 = .ok (.iconst 0, 1) := by decide +kernel
theorem dX1_weigh_54 : decode cX1_weigh 54 = .ok (.invokestatic 50, 3) := by decide +kernel
theorem dX1_weigh_57 : decode cX1_weigh 57 = .ok (.iadd, 1) := by decide +kernel
theorem dX1_weigh_58 : decode cX1_weigh 58 = .ok (.istore 4, 2) := by decide +kernel
theorem dX1_weigh_60 : decode cX1_weigh 60 = .ok (.iinc 5 1, 3) := by decide +kernel
theorem dX1_weigh_63 : decode cX1_weigh 63 = .ok (.goto (-55), 3) := by decide +kernel
theorem dX1_weigh_66 : decode cX1_weigh 66 = .ok (.aload_n 0, 1) := by decide +kernel
theorem dX1_weigh_67 : decode cX1_weigh 67 = .ok (.getfield 25, 3) := by decide +kernel
theorem dX1_weigh_70 : decode cX1_weigh 70 = .ok (.iload_n 2, 1) := by decide +kernel
theorem dX1_weigh_71 : decode cX1_weigh 71 = .ok (.iload_n 3, 1) := by decide +kernel
theorem dX1_weigh_72 : decode cX1_weigh 72 = .ok (.iastore, 1) := by decide +kernel
theorem dX1_weigh_73 : decode cX1_weigh 73 = .ok (.aload_n 0, 1) := by decide +kernel
theorem dX1_weigh_74 : decode cX1_weigh 74 = .ok (.getfield 28, 3) := by decide +kernel
theorem dX1_weigh_77 : decode cX1_weigh 77 = .ok (.iload_n 2, 1) := by decide +kernel
theorem dX1_weigh_78 : decode cX1_weigh 78 = .ok (.iload 4, 2) := by decide +kernel
theorem dX1_weigh_80 : decode cX1_weigh 80 = .ok (.iconst 2, 1) := by decide +kernel
theorem dX1_weigh_81 : decode cX1_weigh 81 = .ok (.iconst 0, 1) := by decide +kernel
theorem dX1_weigh_82 : decode cX1_weigh 82 = .ok (.invokestatic 54, 3) := by decide +kernel
theorem dX1_weigh_85 : decode cX1_weigh 85 = .ok (.imul, 1) := by decide +kernel
theorem dX1_weigh_86 : decode cX1_weigh 86 = .ok (.iastore, 1) := by decide +kernel
theorem dX1_weigh_87 : decode cX1_weigh 87 = .ok (.return_, 1) := by decide +kernel
theorem dX1_chooseFrom_0 : decode cX1_chooseFrom 0 = .ok (.iload_n 3, 1) := by decide +kernel
theorem dX1_chooseFrom_1 : decode cX1_chooseFrom 1 = .ok (.aload_n 1, 1) := by decide +kernel
theorem dX1_chooseFrom_2 : decode cX1_chooseFrom 2 = .ok (.getfield 58, 3) := by decide +kernel
theorem dX1_chooseFrom_5 : decode cX1_chooseFrom 5 = .ok (.if_icmp .ge 8, 3) := by decide +kernel
theorem dX1_chooseFrom_8 : decode cX1_chooseFrom 8 = .ok (.iload_n 3, 1) := by decide +kernel
theorem dX1_chooseFrom_9 : decode cX1_chooseFrom 9 = .ok (.iconst 4, 1) := by decide +kernel
theorem dX1_chooseFrom_10 : decode cX1_chooseFrom 10 = .ok (.if_icmp .lt 12, 3) := by decide +kernel
theorem dX1_chooseFrom_13 : decode cX1_chooseFrom 13 = .ok (.aload_n 0, 1) := by decide +kernel
theorem dX1_chooseFrom_14 : decode cX1_chooseFrom 14 = .ok (.iload 5, 2) := by decide +kernel
theorem dX1_chooseFrom_16 : decode cX1_chooseFrom 16 = .ok (.iload 6, 2) := by decide +kernel
theorem dX1_chooseFrom_18 : decode cX1_chooseFrom 18 = .ok (.invokevirtual 61, 3) := by decide +kernel
theorem dX1_chooseFrom_21 : decode cX1_chooseFrom 21 = .ok (.return_, 1) := by decide +kernel
theorem dX1_chooseFrom_22 : decode cX1_chooseFrom 22 = .ok (.iconst 3, 1) := by decide +kernel
theorem dX1_chooseFrom_23 : decode cX1_chooseFrom 23 = .ok (.aload_n 1, 1) := by decide +kernel
theorem dX1_chooseFrom_24 : decode cX1_chooseFrom 24 = .ok (.getfield 65, 3) := by decide +kernel
theorem dX1_chooseFrom_27 : decode cX1_chooseFrom 27 = .ok (.iload_n 3, 1) := by decide +kernel
theorem dX1_chooseFrom_28 : decode cX1_chooseFrom 28 = .ok (.iaload, 1) := by decide +kernel
theorem dX1_chooseFrom_29 : decode cX1_chooseFrom 29 = .ok (.imul, 1) := by decide +kernel
theorem dX1_chooseFrom_30 : decode cX1_chooseFrom 30 = .ok (.istore 7, 2) := by decide +kernel
theorem dX1_chooseFrom_32 : decode cX1_chooseFrom 32 = .ok (.iconst 0, 1) := by decide +kernel
theorem dX1_chooseFrom_33 : decode cX1_chooseFrom 33 = .ok (.istore 8, 2) := by decide +kernel
theorem dX1_chooseFrom_35 : decode cX1_chooseFrom 35 = .ok (.iload 8, 2) := by decide +kernel
theorem dX1_chooseFrom_37 : decode cX1_chooseFrom 37 = .ok (.iload 4, 2) := by decide +kernel
theorem dX1_chooseFrom_39 : decode cX1_chooseFrom 39 = .ok (.if_icmp .gt 107, 3) := by decide +kernel
theorem dX1_chooseFrom_42 : decode cX1_chooseFrom 42 = .ok (.iload 8, 2) := by decide +kernel
theorem dX1_chooseFrom_44 : decode cX1_chooseFrom 44 = .ok (.bipush 32, 2) := by decide +kernel
theorem dX1_chooseFrom_46 : decode cX1_chooseFrom 46 = .ok (.if_icmp .ge 100, 3) := by decide +kernel
theorem dX1_chooseFrom_49 : decode cX1_chooseFrom 49 = .ok (.iload 7, 2) := by decide +kernel
theorem dX1_chooseFrom_51 : decode cX1_chooseFrom 51 = .ok (.aload_n 0, 1) := by decide +kernel
theorem dX1_chooseFrom_52 : decode cX1_chooseFrom 52 = .ok (.getfield 28, 3) := by decide +kernel
theorem dX1_chooseFrom_55 : decode cX1_chooseFrom 55 = .ok (.iload 8, 2) := by decide +kernel
theorem dX1_chooseFrom_57 : decode cX1_chooseFrom 57 = .ok (.iaload, 1) := by decide +kernel
theorem dX1_chooseFrom_58 : decode cX1_chooseFrom 58 = .ok (.iadd, 1) := by decide +kernel
theorem dX1_chooseFrom_59 : decode cX1_chooseFrom 59 = .ok (.iload_n 2, 1) := by decide +kernel
theorem dX1_chooseFrom_60 : decode cX1_chooseFrom 60 = .ok (.invokestatic 68, 3) := by decide +kernel
theorem dX1_chooseFrom_63 : decode cX1_chooseFrom 63 = .ok (.ifCond .ne 7, 3) := by decide +kernel
theorem dX1_chooseFrom_66 : decode cX1_chooseFrom 66 = .ok (.iconst 1, 1) := by decide +kernel
theorem dX1_chooseFrom_67 : decode cX1_chooseFrom 67 = .ok (.goto 4, 3) := by decide +kernel
theorem dX1_chooseFrom_70 : decode cX1_chooseFrom 70 = .ok (.iconst 0, 1) := by decide +kernel
theorem dX1_chooseFrom_71 : decode cX1_chooseFrom 71 = .ok (.istore 9, 2) := by decide +kernel
theorem dX1_chooseFrom_73 : decode cX1_chooseFrom 73 = .ok (.iload 8, 2) := by decide +kernel
theorem dX1_chooseFrom_75 : decode cX1_chooseFrom 75 = .ok (.iload 4, 2) := by decide +kernel
theorem dX1_chooseFrom_77 : decode cX1_chooseFrom 77 = .ok (.iconst (-1), 1) := by decide +kernel
theorem dX1_chooseFrom_78 : decode cX1_chooseFrom 78 = .ok (.ixor, 1) := by decide +kernel
theorem dX1_chooseFrom_79 : decode cX1_chooseFrom 79 = .ok (.iand, 1) := by decide +kernel
theorem dX1_chooseFrom_80 : decode cX1_chooseFrom 80 = .ok (.ifCond .ne 60, 3) := by decide +kernel
theorem dX1_chooseFrom_83 : decode cX1_chooseFrom 83 = .ok (.iload 9, 2) := by decide +kernel
theorem dX1_chooseFrom_85 : decode cX1_chooseFrom 85 = .ok (.ifCond .ne 8, 3) := by decide +kernel
theorem dX1_chooseFrom_88 : decode cX1_chooseFrom 88 = .ok (.iload 8, 2) := by decide +kernel
theorem dX1_chooseFrom_90 : decode cX1_chooseFrom 90 = .ok (.ifCond .ne 50, 3) := by decide +kernel
theorem dX1_chooseFrom_93 : decode cX1_chooseFrom 93 = .ok (.aload_n 0, 1) := by decide +kernel
theorem dX1_chooseFrom_94 : decode cX1_chooseFrom 94 = .ok (.getfield 22, 3) := by decide +kernel
theorem dX1_chooseFrom_97 : decode cX1_chooseFrom 97 = .ok (.iload_n 3, 1) := by decide +kernel
theorem dX1_chooseFrom_98 : decode cX1_chooseFrom 98 = .ok (.iload 8, 2) := by decide +kernel
theorem dX1_chooseFrom_100 : decode cX1_chooseFrom 100 = .ok (.iastore, 1) := by decide +kernel
theorem dX1_chooseFrom_101 : decode cX1_chooseFrom 101 = .ok (.aload_n 0, 1) := by decide +kernel
theorem dX1_chooseFrom_102 : decode cX1_chooseFrom 102 = .ok (.aload_n 1, 1) := by decide +kernel
theorem dX1_chooseFrom_103 : decode cX1_chooseFrom 103 = .ok (.iload_n 2, 1) := by decide +kernel
theorem dX1_chooseFrom_104 : decode cX1_chooseFrom 104 = .ok (.iload_n 3, 1) := by decide +kernel
theorem dX1_chooseFrom_105 : decode cX1_chooseFrom 105 = .ok (.iconst 1, 1) := by decide +kernel
theorem dX1_chooseFrom_106 : decode cX1_chooseFrom 106 = .ok (.iadd, 1) := by decide +kernel
theorem dX1_chooseFrom_107 : decode cX1_chooseFrom 107 = .ok (.iload 4, 2) := by decide +kernel
theorem dX1_chooseFrom_109 : decode cX1_chooseFrom 109 = .ok (.iload 8, 2) := by decide +kernel
theorem dX1_chooseFrom_111 : decode cX1_chooseFrom 111 = .ok (.iconst (-1), 1) := by decide +kernel
theorem dX1_chooseFrom_112 : decode cX1_chooseFrom 112 = .ok (.ixor, 1) := by decide +kernel
theorem dX1_chooseFrom_113 : decode cX1_chooseFrom 113 = .ok (.iand, 1) := by decide +kernel
theorem dX1_chooseFrom_114 : decode cX1_chooseFrom 114 = .ok (.iload 5, 2) := by decide +kernel
theorem dX1_chooseFrom_116 : decode cX1_chooseFrom 116 = .ok (.iload 9, 2) := by decide +kernel
theorem dX1_chooseFrom_118 : decode cX1_chooseFrom 118 = .ok (.ifCond .eq 7, 3) := by decide +kernel
theorem dX1_chooseFrom_121 : decode cX1_chooseFrom 121 = .ok (.iconst 1, 1) := by decide +kernel
theorem dX1_chooseFrom_122 : decode cX1_chooseFrom 122 = .ok (.goto 4, 3) := by decide +kernel
theorem dX1_chooseFrom_125 : decode cX1_chooseFrom 125 = .ok (.iconst 0, 1) := by decide +kernel
theorem dX1_chooseFrom_126 : decode cX1_chooseFrom 126 = .ok (.iadd, 1) := by decide +kernel
theorem dX1_chooseFrom_127 : decode cX1_chooseFrom 127 = .ok (.iload 6, 2) := by decide +kernel
theorem dX1_chooseFrom_129 : decode cX1_chooseFrom 129 = .ok (.aload_n 0, 1) := by decide +kernel
theorem dX1_chooseFrom_130 : decode cX1_chooseFrom 130 = .ok (.getfield 25, 3) := by decide +kernel
theorem dX1_chooseFrom_133 : decode cX1_chooseFrom 133 = .ok (.iload 8, 2) := by decide +kernel
theorem dX1_chooseFrom_135 : decode cX1_chooseFrom 135 = .ok (.iaload, 1) := by decide +kernel
theorem dX1_chooseFrom_136 : decode cX1_chooseFrom 136 = .ok (.iadd, 1) := by decide +kernel
theorem dX1_chooseFrom_137 : decode cX1_chooseFrom 137 = .ok (.invokevirtual 40, 3) := by decide +kernel
theorem dX1_chooseFrom_140 : decode cX1_chooseFrom 140 = .ok (.iinc 8 1, 3) := by decide +kernel
theorem dX1_chooseFrom_143 : decode cX1_chooseFrom 143 = .ok (.goto (-108), 3) := by decide +kernel
theorem dX1_chooseFrom_146 : decode cX1_chooseFrom 146 = .ok (.return_, 1) := by decide +kernel
theorem dX1_keepIfBetter_0 : decode cX1_keepIfBetter 0 = .ok (.iload_n 1, 1) := by decide +kernel
theorem dX1_keepIfBetter_1 : decode cX1_keepIfBetter 1 = .ok (.aload_n 0, 1) := by decide +kernel
theorem dX1_keepIfBetter_2 : decode cX1_keepIfBetter 2 = .ok (.getfield 15, 3) := by decide +kernel
theorem dX1_keepIfBetter_5 : decode cX1_keepIfBetter 5 = .ok (.if_icmp .gt 19, 3) := by decide +kernel
theorem dX1_keepIfBetter_8 : decode cX1_keepIfBetter 8 = .ok (.iload_n 1, 1) := by decide +kernel
theorem dX1_keepIfBetter_9 : decode cX1_keepIfBetter 9 = .ok (.aload_n 0, 1) := by decide +kernel
theorem dX1_keepIfBetter_10 : decode cX1_keepIfBetter 10 = .ok (.getfield 15, 3) := by decide +kernel
theorem dX1_keepIfBetter_13 : decode cX1_keepIfBetter 13 = .ok (.if_icmp .ne 46, 3) := by decide +kernel
theorem dX1_keepIfBetter_16 : decode cX1_keepIfBetter 16 = .ok (.iload_n 2, 1) := by decide +kernel
theorem dX1_keepIfBetter_17 : decode cX1_keepIfBetter 17 = .ok (.aload_n 0, 1) := by decide +kernel
theorem dX1_keepIfBetter_18 : decode cX1_keepIfBetter 18 = .ok (.getfield 19, 3) := by decide +kernel
theorem dX1_keepIfBetter_21 : decode cX1_keepIfBetter 21 = .ok (.if_icmp .ge 38, 3) := by decide +kernel
theorem dX1_keepIfBetter_24 : decode cX1_keepIfBetter 24 = .ok (.aload_n 0, 1) := by decide +kernel
theorem dX1_keepIfBetter_25 : decode cX1_keepIfBetter 25 = .ok (.iload_n 1, 1) := by decide +kernel
theorem dX1_keepIfBetter_26 : decode cX1_keepIfBetter 26 = .ok (.putfield 15, 3) := by decide +kernel
theorem dX1_keepIfBetter_29 : decode cX1_keepIfBetter 29 = .ok (.aload_n 0, 1) := by decide +kernel
theorem dX1_keepIfBetter_30 : decode cX1_keepIfBetter 30 = .ok (.iload_n 2, 1) := by decide +kernel
theorem dX1_keepIfBetter_31 : decode cX1_keepIfBetter 31 = .ok (.putfield 19, 3) := by decide +kernel
theorem dX1_keepIfBetter_34 : decode cX1_keepIfBetter 34 = .ok (.iconst 0, 1) := by decide +kernel
theorem dX1_keepIfBetter_35 : decode cX1_keepIfBetter 35 = .ok (.istore_n 3, 1) := by decide +kernel
theorem dX1_keepIfBetter_36 : decode cX1_keepIfBetter 36 = .ok (.iload_n 3, 1) := by decide +kernel
theorem dX1_keepIfBetter_37 : decode cX1_keepIfBetter 37 = .ok (.iconst 4, 1) := by decide +kernel
theorem dX1_keepIfBetter_38 : decode cX1_keepIfBetter 38 = .ok (.if_icmp .ge 21, 3) := by decide +kernel
theorem dX1_keepIfBetter_41 : decode cX1_keepIfBetter 41 = .ok (.aload_n 0, 1) := by decide +kernel
theorem dX1_keepIfBetter_42 : decode cX1_keepIfBetter 42 = .ok (.getfield 9, 3) := by decide +kernel
theorem dX1_keepIfBetter_45 : decode cX1_keepIfBetter 45 = .ok (.iload_n 3, 1) := by decide +kernel
theorem dX1_keepIfBetter_46 : decode cX1_keepIfBetter 46 = .ok (.aload_n 0, 1) := by decide +kernel
theorem dX1_keepIfBetter_47 : decode cX1_keepIfBetter 47 = .ok (.getfield 22, 3) := by decide +kernel
theorem dX1_keepIfBetter_50 : decode cX1_keepIfBetter 50 = .ok (.iload_n 3, 1) := by decide +kernel
theorem dX1_keepIfBetter_51 : decode cX1_keepIfBetter 51 = .ok (.iaload, 1) := by decide +kernel
theorem dX1_keepIfBetter_52 : decode cX1_keepIfBetter 52 = .ok (.iastore, 1) := by decide +kernel
theorem dX1_keepIfBetter_53 : decode cX1_keepIfBetter 53 = .ok (.iinc 3 1, 3) := by decide +kernel
theorem dX1_keepIfBetter_56 : decode cX1_keepIfBetter 56 = .ok (.goto (-20), 3) := by decide +kernel
theorem dX1_keepIfBetter_59 : decode cX1_keepIfBetter 59 = .ok (.return_, 1) := by decide +kernel
theorem dX2_init_0 : decode cX2_init 0 = .ok (.aload_n 0, 1) := by decide +kernel
theorem dX2_init_1 : decode cX2_init 1 = .ok (.invokespecial 3, 3) := by decide +kernel
theorem dX2_init_4 : decode cX2_init 4 = .ok (.aload_n 0, 1) := by decide +kernel
theorem dX2_init_5 : decode cX2_init 5 = .ok (.bipush 36, 2) := by decide +kernel
theorem dX2_init_7 : decode cX2_init 7 = .ok (.newarray .int, 2) := by decide +kernel
theorem dX2_init_9 : decode cX2_init 9 = .ok (.putfield 9, 3) := by decide +kernel
theorem dX2_init_12 : decode cX2_init 12 = .ok (.aload_n 0, 1) := by decide +kernel
theorem dX2_init_13 : decode cX2_init 13 = .ok (.iconst 0, 1) := by decide +kernel
theorem dX2_init_14 : decode cX2_init 14 = .ok (.putfield 15, 3) := by decide +kernel
theorem dX2_init_17 : decode cX2_init 17 = .ok (.aload_n 0, 1) := by decide +kernel
theorem dX2_init_18 : decode cX2_init 18 = .ok (.iconst 0, 1) := by decide +kernel
theorem dX2_init_19 : decode cX2_init 19 = .ok (.putfield 19, 3) := by decide +kernel
theorem dX2_init_22 : decode cX2_init 22 = .ok (.aload_n 0, 1) := by decide +kernel
theorem dX2_init_23 : decode cX2_init 23 = .ok (.iconst 0, 1) := by decide +kernel
theorem dX2_init_24 : decode cX2_init 24 = .ok (.putfield 22, 3) := by decide +kernel
theorem dX2_init_27 : decode cX2_init 27 = .ok (.aload_n 0, 1) := by decide +kernel
theorem dX2_init_28 : decode cX2_init 28 = .ok (.iconst 0, 1) := by decide +kernel
theorem dX2_init_29 : decode cX2_init 29 = .ok (.putfield 25, 3) := by decide +kernel
theorem dX2_init_32 : decode cX2_init 32 = .ok (.return_, 1) := by decide +kernel
theorem dX2_append_0 : decode cX2_append 0 = .ok (.aload_n 0, 1) := by decide +kernel
theorem dX2_append_1 : decode cX2_append 1 = .ok (.getfield 15, 3) := by decide +kernel
theorem dX2_append_4 : decode cX2_append 4 = .ok (.bipush 36, 2) := by decide +kernel
theorem dX2_append_6 : decode cX2_append 6 = .ok (.if_icmp .ge 23, 3) := by decide +kernel
theorem dX2_append_9 : decode cX2_append 9 = .ok (.aload_n 0, 1) := by decide +kernel
theorem dX2_append_10 : decode cX2_append 10 = .ok (.getfield 9, 3) := by decide +kernel
theorem dX2_append_13 : decode cX2_append 13 = .ok (.aload_n 0, 1) := by decide +kernel
theorem dX2_append_14 : decode cX2_append 14 = .ok (.getfield 15, 3) := by decide +kernel
theorem dX2_append_17 : decode cX2_append 17 = .ok (.iload_n 1, 1) := by decide +kernel
theorem dX2_append_18 : decode cX2_append 18 = .ok (.iastore, 1) := by decide +kernel
theorem dX2_append_19 : decode cX2_append 19 = .ok (.aload_n 0, 1) := by decide +kernel
theorem dX2_append_20 : decode cX2_append 20 = .ok (.dup, 1) := by decide +kernel
theorem dX2_append_21 : decode cX2_append 21 = .ok (.getfield 15, 3) := by decide +kernel
theorem dX2_append_24 : decode cX2_append 24 = .ok (.iconst 1, 1) := by decide +kernel
theorem dX2_append_25 : decode cX2_append 25 = .ok (.iadd, 1) := by decide +kernel
theorem dX2_append_26 : decode cX2_append 26 = .ok (.putfield 15, 3) := by decide +kernel
theorem dX2_append_29 : decode cX2_append 29 = .ok (.return_, 1) := by decide +kernel
theorem dX2_scan_0 : decode cX2_scan 0 = .ok (.aload_n 0, 1) := by decide +kernel
theorem dX2_scan_1 : decode cX2_scan 1 = .ok (.iconst 0, 1) := by decide +kernel
theorem dX2_scan_2 : decode cX2_scan 2 = .ok (.putfield 19, 3) := by decide +kernel
theorem dX2_scan_5 : decode cX2_scan 5 = .ok (.aload_n 0, 1) := by decide +kernel
theorem dX2_scan_6 : decode cX2_scan 6 = .ok (.iconst 0, 1) := by decide +kernel
theorem dX2_scan_7 : decode cX2_scan 7 = .ok (.putfield 22, 3) := by decide +kernel
theorem dX2_scan_10 : decode cX2_scan 10 = .ok (.aload_n 0, 1) := by decide +kernel
theorem dX2_scan_11 : decode cX2_scan 11 = .ok (.iconst 0, 1) := by decide +kernel
theorem dX2_scan_12 : decode cX2_scan 12 = .ok (.putfield 25, 3) := by decide +kernel
theorem dX2_scan_15 : decode cX2_scan 15 = .ok (.iconst 0, 1) := by decide +kernel
theorem dX2_scan_16 : decode cX2_scan 16 = .ok (.istore_n 1, 1) := by decide +kernel
theorem dX2_scan_17 : decode cX2_scan 17 = .ok (.iload_n 1, 1) := by decide +kernel
theorem dX2_scan_18 : decode cX2_scan 18 = .ok (.aload_n 0, 1) := by decide +kernel
theorem dX2_scan_19 : decode cX2_scan 19 = .ok (.getfield 15, 3) := by decide +kernel
theorem dX2_scan_22 : decode cX2_scan 22 = .ok (.if_icmp .ge 34, 3) := by decide +kernel
theorem dX2_scan_25 : decode cX2_scan 25 = .ok (.aload_n 0, 1) := by decide +kernel
theorem dX2_scan_26 : decode cX2_scan 26 = .ok (.aload_n 0, 1) := by decide +kernel
theorem dX2_scan_27 : decode cX2_scan 27 = .ok (.aload_n 0, 1) := by decide +kernel
theorem dX2_scan_28 : decode cX2_scan 28 = .ok (.getfield 9, 3) := by decide +kernel
theorem dX2_scan_31 : decode cX2_scan 31 = .ok (.iload_n 1, 1) := by decide +kernel
theorem dX2_scan_32 : decode cX2_scan 32 = .ok (.iaload, 1) := by decide +kernel
theorem dX2_scan_33 : decode cX2_scan 33 = .ok (.invokevirtual 28, 3) := by decide +kernel
theorem dX2_scan_36 : decode cX2_scan 36 = .ok (.putfield 25, 3) := by decide +kernel
theorem dX2_scan_39 : decode cX2_scan 39 = .ok (.aload_n 0, 1) := by decide +kernel
theorem dX2_scan_40 : decode cX2_scan 40 = .ok (.getfield 25, 3) := by decide +kernel
theorem dX2_scan_43 : decode cX2_scan 43 = .ok (.bipush 7, 2) := by decide +kernel
theorem dX2_scan_45 : decode cX2_scan 45 = .ok (.if_icmp .ne 5, 3) := by decide +kernel
theorem dX2_scan_48 : decode cX2_scan 48 = .ok (.iload_n 1, 1) := by decide +kernel
theorem dX2_scan_49 : decode cX2_scan 49 = .ok (.ireturn, 1) := by decide +kernel
theorem dX2_scan_50 : decode cX2_scan 50 = .ok (.iinc 1 1, 3) := by decide +kernel
theorem dX2_scan_53 : decode cX2_scan 53 = .ok (.goto (-36), 3) := by decide +kernel
theorem dX2_scan_56 : decode cX2_scan 56 = .ok (.aload_n 0, 1) := by decide +kernel
theorem dX2_scan_57 : decode cX2_scan 57 = .ok (.getfield 15, 3) := by decide +kernel
theorem dX2_scan_60 : decode cX2_scan 60 = .ok (.ireturn, 1) := by decide +kernel
theorem dX2_isTable_0 : decode cX2_isTable 0 = .ok (.aload_n 0, 1) := by decide +kernel
theorem dX2_isTable_1 : decode cX2_isTable 1 = .ok (.invokevirtual 32, 3) := by decide +kernel
theorem dX2_isTable_4 : decode cX2_isTable 4 = .ok (.aload_n 0, 1) := by decide +kernel
theorem dX2_isTable_5 : decode cX2_isTable 5 = .ok (.getfield 15, 3) := by decide +kernel
theorem dX2_isTable_8 : decode cX2_isTable 8 = .ok (.if_icmp .ne 16, 3) := by decide +kernel
theorem dX2_isTable_11 : decode cX2_isTable 11 = .ok (.aload_n 0, 1) := by decide +kernel
theorem dX2_isTable_12 : decode cX2_isTable 12 = .ok (.getfield 25, 3) := by decide +kernel
theorem dX2_isTable_15 : decode cX2_isTable 15 = .ok (.bipush 6, 2) := by decide +kernel
theorem dX2_isTable_17 : decode cX2_isTable 17 = .ok (.if_icmp .ne 7, 3) := by decide +kernel
theorem dX2_isTable_20 : decode cX2_isTable 20 = .ok (.iconst 1, 1) := by decide +kernel
theorem dX2_isTable_21 : decode cX2_isTable 21 = .ok (.goto 4, 3) := by decide +kernel
theorem dX2_isTable_24 : decode cX2_isTable 24 = .ok (.iconst 0, 1) := by decide +kernel
theorem dX2_isTable_25 : decode cX2_isTable 25 = .ok (.ireturn, 1) := by decide +kernel
theorem dX2_dueBehind_0 : decode cX2_dueBehind 0 = .ok (.aload_n 0, 1) := by decide +kernel
theorem dX2_dueBehind_1 : decode cX2_dueBehind 1 = .ok (.getfield 25, 3) := by decide +kernel
theorem dX2_dueBehind_4 : decode cX2_dueBehind 4 = .ok (.tableswitch 138 0 6 #[44, 50, 56, 73, 90, 111, 117], 44) := by decide +kernel
theorem dX2_dueBehind_48 : decode cX2_dueBehind 48 = .ok (.aload_n 0, 1) := by decide +kernel
theorem dX2_dueBehind_49 : decode cX2_dueBehind 49 = .ok (.iload_n 1, 1) := by decide +kernel
theorem dX2_dueBehind_50 : decode cX2_dueBehind 50 = .ok (.invokevirtual 36, 3) := by decide +kernel
theorem dX2_dueBehind_53 : decode cX2_dueBehind 53 = .ok (.ireturn, 1) := by decide +kernel
theorem dX2_dueBehind_54 : decode cX2_dueBehind 54 = .ok (.aload_n 0, 1) := by decide +kernel
theorem dX2_dueBehind_55 : decode cX2_dueBehind 55 = .ok (.iload_n 1, 1) := by decide +kernel
theorem dX2_dueBehind_56 : decode cX2_dueBehind 56 = .ok (.invokevirtual 39, 3) := by decide +kernel
theorem dX2_dueBehind_59 : decode cX2_dueBehind 59 = .ok (.ireturn, 1) := by decide +kernel
theorem dX2_dueBehind_60 : decode cX2_dueBehind 60 = .ok (.ldc 42, 2) := by decide +kernel
theorem dX2_dueBehind_62 : decode cX2_dueBehind 62 = .ok (.iload_n 1, 1) := by decide +kernel
theorem dX2_dueBehind_63 : decode cX2_dueBehind 63 = .ok (.i2c, 1) := by decide +kernel
theorem dX2_dueBehind_64 : decode cX2_dueBehind 64 = .ok (.invokevirtual 44, 3) := by decide +kernel
theorem dX2_dueBehind_67 : decode cX2_dueBehind 67 = .ok (.ifCond .lt 7, 3) := by decide +kernel
theorem dX2_dueBehind_70 : decode cX2_dueBehind 70 = .ok (.iconst 3, 1) := by decide +kernel
theorem dX2_dueBehind_71 : decode cX2_dueBehind 71 = .ok (.goto 5, 3) := by decide +kernel
theorem dX2_dueBehind_74 : decode cX2_dueBehind 74 = .ok (.bipush 7, 2) := by decide +kernel
theorem dX2_dueBehind_76 : decode cX2_dueBehind 76 = .ok (.ireturn, 1) := by decide +kernel
theorem dX2_dueBehind_77 : decode cX2_dueBehind 77 = .ok (.iload_n 1, 1) := by decide +kernel
theorem dX2_dueBehind_78 : decode cX2_dueBehind 78 = .ok (.iconst 1, 1) := by decide +kernel
theorem dX2_dueBehind_79 : decode cX2_dueBehind 79 = .ok (.bipush 9, 2) := by decide +kernel
theorem dX2_dueBehind_81 : decode cX2_dueBehind 81 = .ok (.invokestatic 49, 3) := by decide +kernel
theorem dX2_dueBehind_84 : decode cX2_dueBehind 84 = .ok (.ifCond .eq 7, 3) := by decide +kernel
theorem dX2_dueBehind_87 : decode cX2_dueBehind 87 = .ok (.iconst 4, 1) := by decide +kernel
theorem dX2_dueBehind_88 : decode cX2_dueBehind 88 = .ok (.goto 5, 3) := by decide +kernel
theorem dX2_dueBehind_91 : decode cX2_dueBehind 91 = .ok (.bipush 7, 2) := by decide +kernel
theorem dX2_dueBehind_93 : decode cX2_dueBehind 93 = .ok (.ireturn, 1) := by decide +kernel
theorem dX2_dueBehind_94 : decode cX2_dueBehind 94 = .ok (.iload_n 1, 1) := by decide +kernel
theorem dX2_dueBehind_95 : decode cX2_dueBehind 95 = .ok (.iconst 0, 1) := by decide +kernel
theorem dX2_dueBehind_96 : decode cX2_dueBehind 96 = .ok (.aload_n 0, 1) := by decide +kernel
theorem dX2_dueBehind_97 : decode cX2_dueBehind 97 = .ok (.getfield 19, 3) := by decide +kernel
theorem dX2_dueBehind_100 : decode cX2_dueBehind 100 = .ok (.iconst 1, 1) := by decide +kernel
theorem dX2_dueBehind_101 : decode cX2_dueBehind 101 = .ok (.isub, 1) := by decide +kernel
theorem dX2_dueBehind_102 : decode cX2_dueBehind 102 = .ok (.invokestatic 49, 3) := by decide +kernel
theorem dX2_dueBehind_105 : decode cX2_dueBehind 105 = .ok (.ifCond .eq 7, 3) := by decide +kernel
theorem dX2_dueBehind_108 : decode cX2_dueBehind 108 = .ok (.iconst 5, 1) := by decide +kernel
theorem dX2_dueBehind_109 : decode cX2_dueBehind 109 = .ok (.goto 5, 3) := by decide +kernel
theorem dX2_dueBehind_112 : decode cX2_dueBehind 112 = .ok (.bipush 7, 2) := by decide +kernel
theorem dX2_dueBehind_114 : decode cX2_dueBehind 114 = .ok (.ireturn, 1) := by decide +kernel
theorem dX2_dueBehind_115 : decode cX2_dueBehind 115 = .ok (.aload_n 0, 1) := by decide +kernel
theorem dX2_dueBehind_116 : decode cX2_dueBehind 116 = .ok (.iload_n 1, 1) := by decide +kernel
theorem dX2_dueBehind_117 : decode cX2_dueBehind 117 = .ok (.invokevirtual 53, 3) := by decide +kernel
theorem dX2_dueBehind_120 : decode cX2_dueBehind 120 = .ok (.ireturn, 1) := by decide +kernel
theorem dX2_dueBehind_121 : decode cX2_dueBehind 121 = .ok (.iload_n 1, 1) := by decide +kernel
theorem dX2_dueBehind_122 : decode cX2_dueBehind 122 = .ok (.bipush 44, 2) := by decide +kernel
theorem dX2_dueBehind_124 : decode cX2_dueBehind 124 = .ok (.if_icmp .ne 15, 3) := by decide +kernel
theorem dX2_dueBehind_127 : decode cX2_dueBehind 127 = .ok (.aload_n 0, 1) := by decide +kernel
theorem dX2_dueBehind_128 : decode cX2_dueBehind 128 = .ok (.getfield 22, 3) := by decide +kernel
theorem dX2_dueBehind_131 : decode cX2_dueBehind 131 = .ok (.iconst 5, 1) := by decide +kernel
theorem dX2_dueBehind_132 : decode cX2_dueBehind 132 = .ok (.if_icmp .ge 7, 3) := by decide +kernel
theorem dX2_dueBehind_135 : decode cX2_dueBehind 135 = .ok (.iconst 2, 1) := by decide +kernel
theorem dX2_dueBehind_136 : decode cX2_dueBehind 136 = .ok (.goto 5, 3) := by decide +kernel
theorem dX2_dueBehind_139 : decode cX2_dueBehind 139 = .ok (.bipush 7, 2) := by decide +kernel
theorem dX2_dueBehind_141 : decode cX2_dueBehind 141 = .ok (.ireturn, 1) := by decide +kernel
theorem dX2_dueBehind_142 : decode cX2_dueBehind 142 = .ok (.bipush 7, 2) := by decide +kernel
theorem dX2_dueBehind_144 : decode cX2_dueBehind 144 = .ok (.ireturn, 1) := by decide +kernel
theorem dX2_behindBase_0 : decode cX2_behindBase 0 = .ok (.iload_n 1, 1) := by decide +kernel
theorem dX2_behindBase_1 : decode cX2_behindBase 1 = .ok (.iconst 0, 1) := by decide +kernel
theorem dX2_behindBase_2 : decode cX2_behindBase 2 = .ok (.bipush 9, 2) := by decide +kernel
theorem dX2_behindBase_4 : decode cX2_behindBase 4 = .ok (.invokestatic 49, 3) := by decide +kernel
theorem dX2_behindBase_7 : decode cX2_behindBase 7 = .ok (.ifCond .ne 6, 3) := by decide +kernel
theorem dX2_behindBase_10 : decode cX2_behindBase 10 = .ok (.bipush 7, 2) := by decide +kernel
theorem dX2_behindBase_12 : decode cX2_behindBase 12 = .ok (.ireturn, 1) := by decide +kernel
theorem dX2_behindBase_13 : decode cX2_behindBase 13 = .ok (.aload_n 0, 1) := by decide +kernel
theorem dX2_behindBase_14 : decode cX2_behindBase 14 = .ok (.dup, 1) := by decide +kernel
theorem dX2_behindBase_15 : decode cX2_behindBase 15 = .ok (.getfield 19, 3) := by decide +kernel
theorem dX2_behindBase_18 : decode cX2_behindBase 18 = .ok (.iconst 1, 1) := by decide +kernel
theorem dX2_behindBase_19 : decode cX2_behindBase 19 = .ok (.iadd, 1) := by decide +kernel
theorem dX2_behindBase_20 : decode cX2_behindBase 20 = .ok (.putfield 19, 3) := by decide +kernel
