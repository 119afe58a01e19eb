theorem dX2_behindBase_23 : decode cX2_behindBase 23 = .ok (.iconst 1, 1) := by decide +kernel
theorem dX2_behindBase_24 : decode cX2_behindBase 24 = .ok (.ireturn, 1) := by decide +kernel
theorem dX2_behindBaseSign_0 : decode cX2_behindBaseSign 0 = .ok (.iload_n 1, 1) := by decide +kernel
theorem dX2_behindBaseSign_1 : decode cX2_behindBaseSign 1 = .ok (.bipush 44, 2) := by decide +kernel
theorem dX2_behindBaseSign_3 : decode cX2_behindBaseSign 3 = .ok (.if_icmp .ne 13, 3) := by decide +kernel
theorem dX2_behindBaseSign_6 : decode cX2_behindBaseSign 6 = .ok (.aload_n 0, 1) := by decide +kernel
theorem dX2_behindBaseSign_7 : decode cX2_behindBaseSign 7 = .ok (.getfield 19, 3) := by decide +kernel
theorem dX2_behindBaseSign_10 : decode cX2_behindBaseSign 10 = .ok (.iconst 4, 1) := by decide +kernel
theorem dX2_behindBaseSign_11 : decode cX2_behindBaseSign 11 = .ok (.if_icmp .ge 5, 3) := by decide +kernel
theorem dX2_behindBaseSign_14 : decode cX2_behindBaseSign 14 = .ok (.iconst 0, 1) := by decide +kernel
theorem dX2_behindBaseSign_15 : decode cX2_behindBaseSign 15 = .ok (.ireturn, 1) := by decide +kernel
theorem dX2_behindBaseSign_16 : decode cX2_behindBaseSign 16 = .ok (.iload_n 1, 1) := by decide +kernel
theorem dX2_behindBaseSign_17 : decode cX2_behindBaseSign 17 = .ok (.bipush 59, 2) := by decide +kernel
theorem dX2_behindBaseSign_19 : decode cX2_behindBaseSign 19 = .ok (.if_icmp .ne 15, 3) := by decide +kernel
theorem dX2_behindBaseSign_22 : decode cX2_behindBaseSign 22 = .ok (.aload_n 0, 1) := by decide +kernel
theorem dX2_behindBaseSign_23 : decode cX2_behindBaseSign 23 = .ok (.getfield 19, 3) := by decide +kernel
theorem dX2_behindBaseSign_26 : decode cX2_behindBaseSign 26 = .ok (.iconst 2, 1) := by decide +kernel
theorem dX2_behindBaseSign_27 : decode cX2_behindBaseSign 27 = .ok (.if_icmp .lt 7, 3) := by decide +kernel
theorem dX2_behindBaseSign_30 : decode cX2_behindBaseSign 30 = .ok (.iconst 2, 1) := by decide +kernel
theorem dX2_behindBaseSign_31 : decode cX2_behindBaseSign 31 = .ok (.goto 5, 3) := by decide +kernel
theorem dX2_behindBaseSign_34 : decode cX2_behindBaseSign 34 = .ok (.bipush 7, 2) := by decide +kernel
theorem dX2_behindBaseSign_36 : decode cX2_behindBaseSign 36 = .ok (.ireturn, 1) := by decide +kernel
theorem dX2_behindPlace_0 : decode cX2_behindPlace 0 = .ok (.iload_n 1, 1) := by decide +kernel
theorem dX2_behindPlace_1 : decode cX2_behindPlace 1 = .ok (.iconst 0, 1) := by decide +kernel
theorem dX2_behindPlace_2 : decode cX2_behindPlace 2 = .ok (.iconst 4, 1) := by decide +kernel
theorem dX2_behindPlace_3 : decode cX2_behindPlace 3 = .ok (.invokestatic 49, 3) := by decide +kernel
theorem dX2_behindPlace_6 : decode cX2_behindPlace 6 = .ok (.ifCond .ne 6, 3) := by decide +kernel
theorem dX2_behindPlace_9 : decode cX2_behindPlace 9 = .ok (.bipush 7, 2) := by decide +kernel
theorem dX2_behindPlace_11 : decode cX2_behindPlace 11 = .ok (.ireturn, 1) := by decide +kernel
theorem dX2_behindPlace_12 : decode cX2_behindPlace 12 = .ok (.aload_n 0, 1) := by decide +kernel
theorem dX2_behindPlace_13 : decode cX2_behindPlace 13 = .ok (.dup, 1) := by decide +kernel
theorem dX2_behindPlace_14 : decode cX2_behindPlace 14 = .ok (.getfield 22, 3) := by decide +kernel
theorem dX2_behindPlace_17 : decode cX2_behindPlace 17 = .ok (.iconst 1, 1) := by decide +kernel
theorem dX2_behindPlace_18 : decode cX2_behindPlace 18 = .ok (.iadd, 1) := by decide +kernel
theorem dX2_behindPlace_19 : decode cX2_behindPlace 19 = .ok (.putfield 22, 3) := by decide +kernel
theorem dX2_behindPlace_22 : decode cX2_behindPlace 22 = .ok (.bipush 6, 2) := by decide +kernel
theorem dX2_behindPlace_24 : decode cX2_behindPlace 24 = .ok (.ireturn, 1) := by decide +kernel
theorem dX2_isDigit_0 : decode cX2_isDigit 0 = .ok (.iload_n 0, 1) := by decide +kernel
theorem dX2_isDigit_1 : decode cX2_isDigit 1 = .ok (.bipush 48, 2) := by decide +kernel
theorem dX2_isDigit_3 : decode cX2_isDigit 3 = .ok (.iload_n 1, 1) := by decide +kernel
theorem dX2_isDigit_4 : decode cX2_isDigit 4 = .ok (.iadd, 1) := by decide +kernel
theorem dX2_isDigit_5 : decode cX2_isDigit 5 = .ok (.if_icmp .lt 15, 3) := by decide +kernel
theorem dX2_isDigit_8 : decode cX2_isDigit 8 = .ok (.iload_n 0, 1) := by decide +kernel
theorem dX2_isDigit_9 : decode cX2_isDigit 9 = .ok (.bipush 48, 2) := by decide +kernel
theorem dX2_isDigit_11 : decode cX2_isDigit 11 = .ok (.iload_n 2, 1) := by decide +kernel
theorem dX2_isDigit_12 : decode cX2_isDigit 12 = .ok (.iadd, 1) := by decide +kernel
theorem dX2_isDigit_13 : decode cX2_isDigit 13 = .ok (.if_icmp .gt 7, 3) := by decide +kernel
theorem dX2_isDigit_16 : decode cX2_isDigit 16 = .ok (.iconst 1, 1) := by decide +kernel
theorem dX2_isDigit_17 : decode cX2_isDigit 17 = .ok (.goto 4, 3) := by decide +kernel
theorem dX2_isDigit_20 : decode cX2_isDigit 20 = .ok (.iconst 0, 1) := by decide +kernel
theorem dX2_isDigit_21 : decode cX2_isDigit 21 = .ok (.ireturn, 1) := by decide +kernel
theorem dX2_readInto_0 : decode cX2_readInto 0 = .ok (.aload_n 1, 1) := by decide +kernel
theorem dX2_readInto_1 : decode cX2_readInto 1 = .ok (.aload_n 0, 1) := by decide +kernel
theorem dX2_readInto_2 : decode cX2_readInto 2 = .ok (.getfield 19, 3) := by decide +kernel
theorem dX2_readInto_5 : decode cX2_readInto 5 = .ok (.aload_n 0, 1) := by decide +kernel
theorem dX2_readInto_6 : decode cX2_readInto 6 = .ok (.getfield 22, 3) := by decide +kernel
theorem dX2_readInto_9 : decode cX2_readInto 9 = .ok (.invokevirtual 56, 3) := by decide +kernel
theorem dX2_readInto_12 : decode cX2_readInto 12 = .ok (.iconst 0, 1) := by decide +kernel
theorem dX2_readInto_13 : decode cX2_readInto 13 = .ok (.istore_n 2, 1) := by decide +kernel
theorem dX2_readInto_14 : decode cX2_readInto 14 = .ok (.iload_n 2, 1) := by decide +kernel
theorem dX2_readInto_15 : decode cX2_readInto 15 = .ok (.aload_n 1, 1) := by decide +kernel
theorem dX2_readInto_16 : decode cX2_readInto 16 = .ok (.getfield 62, 3) := by decide +kernel
theorem dX2_readInto_19 : decode cX2_readInto 19 = .ok (.if_icmp .ge 22, 3) := by decide +kernel
theorem dX2_readInto_22 : decode cX2_readInto 22 = .ok (.aload_n 1, 1) := by decide +kernel
theorem dX2_readInto_23 : decode cX2_readInto 23 = .ok (.getfield 63, 3) := by decide +kernel
theorem dX2_readInto_26 : decode cX2_readInto 26 = .ok (.iload_n 2, 1) := by decide +kernel
theorem dX2_readInto_27 : decode cX2_readInto 27 = .ok (.aload_n 0, 1) := by decide +kernel
theorem dX2_readInto_28 : decode cX2_readInto 28 = .ok (.iconst 2, 1) := by decide +kernel
theorem dX2_readInto_29 : decode cX2_readInto 29 = .ok (.iload_n 2, 1) := by decide +kernel
theorem dX2_readInto_30 : decode cX2_readInto 30 = .ok (.imul, 1) := by decide +kernel
theorem dX2_readInto_31 : decode cX2_readInto 31 = .ok (.invokevirtual 66, 3) := by decide +kernel
theorem dX2_readInto_34 : decode cX2_readInto 34 = .ok (.iastore, 1) := by decide +kernel
theorem dX2_readInto_35 : decode cX2_readInto 35 = .ok (.iinc 2 1, 3) := by decide +kernel
theorem dX2_readInto_38 : decode cX2_readInto 38 = .ok (.goto (-24), 3) := by decide +kernel
theorem dX2_readInto_41 : decode cX2_readInto 41 = .ok (.iconst 0, 1) := by decide +kernel
theorem dX2_readInto_42 : decode cX2_readInto 42 = .ok (.istore_n 2, 1) := by decide +kernel
theorem dX2_readInto_43 : decode cX2_readInto 43 = .ok (.iload_n 2, 1) := by decide +kernel
theorem dX2_readInto_44 : decode cX2_readInto 44 = .ok (.aload_n 1, 1) := by decide +kernel
theorem dX2_readInto_45 : decode cX2_readInto 45 = .ok (.getfield 69, 3) := by decide +kernel
theorem dX2_readInto_48 : decode cX2_readInto 48 = .ok (.if_icmp .ge 70, 3) := by decide +kernel
theorem dX2_readInto_51 : decode cX2_readInto 51 = .ok (.iconst 2, 1) := by decide +kernel
theorem dX2_readInto_52 : decode cX2_readInto 52 = .ok (.aload_n 0, 1) := by decide +kernel
theorem dX2_readInto_53 : decode cX2_readInto 53 = .ok (.getfield 19, 3) := by decide +kernel
theorem dX2_readInto_56 : decode cX2_readInto 56 = .ok (.imul, 1) := by decide +kernel
theorem dX2_readInto_57 : decode cX2_readInto 57 = .ok (.iconst 5, 1) := by decide +kernel
theorem dX2_readInto_58 : decode cX2_readInto 58 = .ok (.iload_n 2, 1) := by decide +kernel
theorem dX2_readInto_59 : decode cX2_readInto 59 = .ok (.imul, 1) := by decide +kernel
theorem dX2_readInto_60 : decode cX2_readInto 60 = .ok (.iadd, 1) := by decide +kernel
theorem dX2_readInto_61 : decode cX2_readInto 61 = .ok (.istore_n 3, 1) := by decide +kernel
theorem dX2_readInto_62 : decode cX2_readInto 62 = .ok (.aload_n 1, 1) := by decide +kernel
theorem dX2_readInto_63 : decode cX2_readInto 63 = .ok (.getfield 70, 3) := by decide +kernel
theorem dX2_readInto_66 : decode cX2_readInto 66 = .ok (.iload_n 2, 1) := by decide +kernel
theorem dX2_readInto_67 : decode cX2_readInto 67 = .ok (.aload_n 0, 1) := by decide +kernel
theorem dX2_readInto_68 : decode cX2_readInto 68 = .ok (.iload_n 3, 1) := by decide +kernel
theorem dX2_readInto_69 : decode cX2_readInto 69 = .ok (.invokevirtual 73, 3) := by decide +kernel
theorem dX2_readInto_72 : decode cX2_readInto 72 = .ok (.iastore, 1) := by decide +kernel
theorem dX2_readInto_73 : decode cX2_readInto 73 = .ok (.aload_n 1, 1) := by decide +kernel
theorem dX2_readInto_74 : decode cX2_readInto 74 = .ok (.getfield 76, 3) := by decide +kernel
theorem dX2_readInto_77 : decode cX2_readInto 77 = .ok (.iload_n 2, 1) := by decide +kernel
theorem dX2_readInto_78 : decode cX2_readInto 78 = .ok (.aload_n 0, 1) := by decide +kernel
theorem dX2_readInto_79 : decode cX2_readInto 79 = .ok (.iload_n 3, 1) := by decide +kernel
theorem dX2_readInto_80 : decode cX2_readInto 80 = .ok (.iconst 1, 1) := by decide +kernel
theorem dX2_readInto_81 : decode cX2_readInto 81 = .ok (.iadd, 1) := by decide +kernel
theorem dX2_readInto_82 : decode cX2_readInto 82 = .ok (.invokevirtual 66, 3) := by decide +kernel
theorem dX2_readInto_85 : decode cX2_readInto 85 = .ok (.iastore, 1) := by decide +kernel
theorem dX2_readInto_86 : decode cX2_readInto 86 = .ok (.aload_n 1, 1) := by decide +kernel
theorem dX2_readInto_87 : decode cX2_readInto 87 = .ok (.getfield 79, 3) := by decide +kernel
theorem dX2_readInto_90 : decode cX2_readInto 90 = .ok (.iload_n 2, 1) := by decide +kernel
theorem dX2_readInto_91 : decode cX2_readInto 91 = .ok (.aload_n 0, 1) := by decide +kernel
theorem dX2_readInto_92 : decode cX2_readInto 92 = .ok (.iload_n 3, 1) := by decide +kernel
theorem dX2_readInto_93 : decode cX2_readInto 93 = .ok (.iconst 2, 1) := by decide +kernel
theorem dX2_readInto_94 : decode cX2_readInto 94 = .ok (.iadd, 1) := by decide +kernel
theorem dX2_readInto_95 : decode cX2_readInto 95 = .ok (.invokevirtual 66, 3) := by decide +kernel
theorem dX2_readInto_98 : decode cX2_readInto 98 = .ok (.iastore, 1) := by decide +kernel
theorem dX2_readInto_99 : decode cX2_readInto 99 = .ok (.aload_n 1, 1) := by decide +kernel
theorem dX2_readInto_100 : decode cX2_readInto 100 = .ok (.getfield 82, 3) := by decide +kernel
theorem dX2_readInto_103 : decode cX2_readInto 103 = .ok (.iload_n 2, 1) := by decide +kernel
theorem dX2_readInto_104 : decode cX2_readInto 104 = .ok (.aload_n 0, 1) := by decide +kernel
theorem dX2_readInto_105 : decode cX2_readInto 105 = .ok (.iload_n 3, 1) := by decide +kernel
theorem dX2_readInto_106 : decode cX2_readInto 106 = .ok (.iconst 3, 1) := by decide +kernel
theorem dX2_readInto_107 : decode cX2_readInto 107 = .ok (.iadd, 1) := by decide +kernel
theorem dX2_readInto_108 : decode cX2_readInto 108 = .ok (.invokevirtual 66, 3) := by decide +kernel
theorem dX2_readInto_111 : decode cX2_readInto 111 = .ok (.iastore, 1) := by decide +kernel
theorem dX2_readInto_112 : decode cX2_readInto 112 = .ok (.iinc 2 1, 3) := by decide +kernel
theorem dX2_readInto_115 : decode cX2_readInto 115 = .ok (.goto (-72), 3) := by decide +kernel
theorem dX2_readInto_118 : decode cX2_readInto 118 = .ok (.return_, 1) := by decide +kernel
theorem dX2_kindAt_0 : decode cX2_kindAt 0 = .ok (.iload_n 1, 1) := by decide +kernel
theorem dX2_kindAt_1 : decode cX2_kindAt 1 = .ok (.ifCond .lt 26, 3) := by decide +kernel
theorem dX2_kindAt_4 : decode cX2_kindAt 4 = .ok (.iload_n 1, 1) := by decide +kernel
theorem dX2_kindAt_5 : decode cX2_kindAt 5 = .ok (.aload_n 0, 1) := by decide +kernel
theorem dX2_kindAt_6 : decode cX2_kindAt 6 = .ok (.getfield 15, 3) := by decide +kernel
theorem dX2_kindAt_9 : decode cX2_kindAt 9 = .ok (.if_icmp .ge 18, 3) := by decide +kernel
theorem dX2_kindAt_12 : decode cX2_kindAt 12 = .ok (.ldc 42, 2) := by decide +kernel
theorem dX2_kindAt_14 : decode cX2_kindAt 14 = .ok (.aload_n 0, 1) := by decide +kernel
theorem dX2_kindAt_15 : decode cX2_kindAt 15 = .ok (.getfield 9, 3) := by decide +kernel
theorem dX2_kindAt_18 : decode cX2_kindAt 18 = .ok (.iload_n 1, 1) := by decide +kernel
theorem dX2_kindAt_19 : decode cX2_kindAt 19 = .ok (.iaload, 1) := by decide +kernel
theorem dX2_kindAt_20 : decode cX2_kindAt 20 = .ok (.i2c, 1) := by decide +kernel
theorem dX2_kindAt_21 : decode cX2_kindAt 21 = .ok (.invokevirtual 44, 3) := by decide +kernel
theorem dX2_kindAt_24 : decode cX2_kindAt 24 = .ok (.goto 4, 3) := by decide +kernel
theorem dX2_kindAt_27 : decode cX2_kindAt 27 = .ok (.iconst 0, 1) := by decide +kernel
theorem dX2_kindAt_28 : decode cX2_kindAt 28 = .ok (.ireturn, 1) := by decide +kernel
theorem dX2_digitAt_0 : decode cX2_digitAt 0 = .ok (.iload_n 1, 1) := by decide +kernel
theorem dX2_digitAt_1 : decode cX2_digitAt 1 = .ok (.ifCond .lt 23, 3) := by decide +kernel
theorem dX2_digitAt_4 : decode cX2_digitAt 4 = .ok (.iload_n 1, 1) := by decide +kernel
theorem dX2_digitAt_5 : decode cX2_digitAt 5 = .ok (.aload_n 0, 1) := by decide +kernel
theorem dX2_digitAt_6 : decode cX2_digitAt 6 = .ok (.getfield 15, 3) := by decide +kernel
theorem dX2_digitAt_9 : decode cX2_digitAt 9 = .ok (.if_icmp .ge 15, 3) := by decide +kernel
theorem dX2_digitAt_12 : decode cX2_digitAt 12 = .ok (.aload_n 0, 1) := by decide +kernel
theorem dX2_digitAt_13 : decode cX2_digitAt 13 = .ok (.getfield 9, 3) := by decide +kernel
theorem dX2_digitAt_16 : decode cX2_digitAt 16 = .ok (.iload_n 1, 1) := by decide +kernel
theorem dX2_digitAt_17 : decode cX2_digitAt 17 = .ok (.iaload, 1) := by decide +kernel
theorem dX2_digitAt_18 : decode cX2_digitAt 18 = .ok (.bipush 48, 2) := by decide +kernel
theorem dX2_digitAt_20 : decode cX2_digitAt 20 = .ok (.isub, 1) := by decide +kernel
theorem dX2_digitAt_21 : decode cX2_digitAt 21 = .ok (.goto 4, 3) := by decide +kernel
theorem dX2_digitAt_24 : decode cX2_digitAt 24 = .ok (.iconst 0, 1) := by decide +kernel
theorem dX2_digitAt_25 : decode cX2_digitAt 25 = .ok (.ireturn, 1) := by decide +kernel
theorem dX3_init_0 : decode cX3_init 0 = .ok (.aload_n 0, 1) := by decide +kernel
theorem dX3_init_1 : decode cX3_init 1 = .ok (.invokespecial 3, 3) := by decide +kernel
theorem dX3_init_4 : decode cX3_init 4 = .ok (.aload_n 0, 1) := by decide +kernel
theorem dX3_init_5 : decode cX3_init 5 = .ok (.iconst 0, 1) := by decide +kernel
theorem dX3_init_6 : decode cX3_init 6 = .ok (.putfield 9, 3) := by decide +kernel
theorem dX3_init_9 : decode cX3_init 9 = .ok (.aload_n 0, 1) := by decide +kernel
theorem dX3_init_10 : decode cX3_init 10 = .ok (.bipush 8, 2) := by decide +kernel
theorem dX3_init_12 : decode cX3_init 12 = .ok (.newarray .int, 2) := by decide +kernel
theorem dX3_init_14 : decode cX3_init 14 = .ok (.putfield 15, 3) := by decide +kernel
theorem dX3_init_17 : decode cX3_init 17 = .ok (.aload_n 0, 1) := by decide +kernel
theorem dX3_init_18 : decode cX3_init 18 = .ok (.bipush 8, 2) := by decide +kernel
theorem dX3_init_20 : decode cX3_init 20 = .ok (.newarray .int, 2) := by decide +kernel
theorem dX3_init_22 : decode cX3_init 22 = .ok (.putfield 19, 3) := by decide +kernel
theorem dX3_init_25 : decode cX3_init 25 = .ok (.aload_n 0, 1) := by decide +kernel
theorem dX3_init_26 : decode cX3_init 26 = .ok (.bipush 8, 2) := by decide +kernel
theorem dX3_init_28 : decode cX3_init 28 = .ok (.newarray .int, 2) := by decide +kernel
theorem dX3_init_30 : decode cX3_init 30 = .ok (.putfield 22, 3) := by decide +kernel
theorem dX3_init_33 : decode cX3_init 33 = .ok (.aload_n 0, 1) := by decide +kernel
theorem dX3_init_34 : decode cX3_init 34 = .ok (.bipush 8, 2) := by decide +kernel
theorem dX3_init_36 : decode cX3_init 36 = .ok (.newarray .boolean, 2) := by decide +kernel
theorem dX3_init_38 : decode cX3_init 38 = .ok (.putfield 25, 3) := by decide +kernel
theorem dX3_init_41 : decode cX3_init 41 = .ok (.aload_n 0, 1) := by decide +kernel
theorem dX3_init_42 : decode cX3_init 42 = .ok (.bipush 10, 2) := by decide +kernel
theorem dX3_init_44 : decode cX3_init 44 = .ok (.newarray .int, 2) := by decide +kernel
theorem dX3_init_46 : decode cX3_init 46 = .ok (.putfield 29, 3) := by decide +kernel
theorem dX3_init_49 : decode cX3_init 49 = .ok (.return_, 1) := by decide +kernel
theorem dX3_append_0 : decode cX3_append 0 = .ok (.aload_n 0, 1) := by decide +kernel
theorem dX3_append_1 : decode cX3_append 1 = .ok (.getfield 9, 3) := by decide +kernel
theorem dX3_append_4 : decode cX3_append 4 = .ok (.bipush 8, 2) := by decide +kernel
theorem dX3_append_6 : decode cX3_append 6 = .ok (.if_icmp .ge 54, 3) := by decide +kernel
theorem dX3_append_9 : decode cX3_append 9 = .ok (.aload_n 0, 1) := by decide +kernel
theorem dX3_append_10 : decode cX3_append 10 = .ok (.getfield 15, 3) := by decide +kernel
theorem dX3_append_13 : decode cX3_append 13 = .ok (.aload_n 0, 1) := by decide +kernel
theorem dX3_append_14 : decode cX3_append 14 = .ok (.getfield 9, 3) := by decide +kernel
theorem dX3_append_17 : decode cX3_append 17 = .ok (.iload_n 1, 1) := by decide +kernel
theorem dX3_append_18 : decode cX3_append 18 = .ok (.iastore, 1) := by decide +kernel
theorem dX3_append_19 : decode cX3_append 19 = .ok (.aload_n 0, 1) := by decide +kernel
theorem dX3_append_20 : decode cX3_append 20 = .ok (.getfield 19, 3) := by decide +kernel
theorem dX3_append_23 : decode cX3_append 23 = .ok (.aload_n 0, 1) := by decide +kernel
theorem dX3_append_24 : decode cX3_append 24 = .ok (.getfield 9, 3) := by decide +kernel
theorem dX3_append_27 : decode cX3_append 27 = .ok (.iload_n 2, 1) := by decide +kernel
theorem dX3_append_28 : decode cX3_append 28 = .ok (.iastore, 1) := by decide +kernel
theorem dX3_append_29 : decode cX3_append 29 = .ok (.aload_n 0, 1) := by decide +kernel
theorem dX3_append_30 : decode cX3_append 30 = .ok (.getfield 22, 3) := by decide +kernel
theorem dX3_append_33 : decode cX3_append 33 = .ok (.aload_n 0, 1) := by decide +kernel
theorem dX3_append_34 : decode cX3_append 34 = .ok (.getfield 9, 3) := by decide +kernel
theorem dX3_append_37 : decode cX3_append 37 = .ok (.iload_n 3, 1) := by decide +kernel
theorem dX3_append_38 : decode cX3_append 38 = .ok (.iastore, 1) := by decide +kernel
theorem dX3_append_39 : decode cX3_append 39 = .ok (.aload_n 0, 1) := by decide +kernel
theorem dX3_append_40 : decode cX3_append 40 = .ok (.getfield 25, 3) := by decide +kernel
theorem dX3_append_43 : decode cX3_append 43 = .ok (.aload_n 0, 1) := by decide +kernel
theorem dX3_append_44 : decode cX3_append 44 = .ok (.getfield 9, 3) := by decide +kernel
theorem dX3_append_47 : decode cX3_append 47 = .ok (.iload 4, 2) := by decide +kernel
theorem dX3_append_49 : decode cX3_append 49 = .ok (.bastore, 1) := by decide +kernel
theorem dX3_append_50 : decode cX3_append 50 = .ok (.aload_n 0, 1) := by decide +kernel
theorem dX3_append_51 : decode cX3_append 51 = .ok (.dup, 1) := by decide +kernel
theorem dX3_append_52 : decode cX3_append 52 = .ok (.getfield 9, 3) := by decide +kernel
theorem dX3_append_55 : decode cX3_append 55 = .ok (.iconst 1, 1) := by decide +kernel
theorem dX3_append_56 : decode cX3_append 56 = .ok (.iadd, 1) := by decide +kernel
theorem dX3_append_57 : decode cX3_append 57 = .ok (.putfield 9, 3) := by decide +kernel
theorem dX3_append_60 : decode cX3_append 60 = .ok (.return_, 1) := by decide +kernel
theorem dX3_copyFrom_0 : decode cX3_copyFrom 0 = .ok (.aload_n 0, 1) := by decide +kernel
theorem dX3_copyFrom_1 : decode cX3_copyFrom 1 = .ok (.aload_n 1, 1) := by decide +kernel
theorem dX3_copyFrom_2 : decode cX3_copyFrom 2 = .ok (.getfield 9, 3) := by decide +kernel
theorem dX3_copyFrom_5 : decode cX3_copyFrom 5 = .ok (.putfield 9, 3) := by decide +kernel
theorem dX3_copyFrom_8 : decode cX3_copyFrom 8 = .ok (.iconst 0, 1) := by decide +kernel
theorem dX3_copyFrom_9 : decode cX3_copyFrom 9 = .ok (.istore_n 2, 1) := by decide +kernel
theorem dX3_copyFrom_10 : decode cX3_copyFrom 10 = .ok (.iload_n 2, 1) := by decide +kernel
theorem dX3_copyFrom_11 : decode cX3_copyFrom 11 = .ok (.bipush 8, 2) := by decide +kernel
theorem dX3_copyFrom_13 : decode cX3_copyFrom 13 = .ok (.if_icmp .ge 57, 3) := by decide +kernel
theorem dX3_copyFrom_16 : decode cX3_copyFrom 16 = .ok (.aload_n 0, 1) := by decide +kernel
theorem dX3_copyFrom_17 : decode cX3_copyFrom 17 = .ok (.getfield 15, 3) := by decide +kernel
theorem dX3_copyFrom_20 : decode cX3_copyFrom 20 = .ok (.iload_n 2, 1) := by decide +kernel
theorem dX3_copyFrom_21 : decode cX3_copyFrom 21 = .ok (.aload_n 1, 1) := by decide +kernel
theorem dX3_copyFrom_22 : decode cX3_copyFrom 22 = .ok (.getfield 15, 3) := by decide +kernel
theorem dX3_copyFrom_25 : decode cX3_copyFrom 25 = .ok (.iload_n 2, 1) := by decide +kernel
theorem dX3_copyFrom_26 : decode cX3_copyFrom 26 = .ok (.iaload, 1) := by decide +kernel
theorem dX3_copyFrom_27 : decode cX3_copyFrom 27 = .ok (.iastore, 1) := by decide +kernel
theorem dX3_copyFrom_28 : decode cX3_copyFrom 28 = .ok (.aload_n 0, 1) := by decide +kernel
theorem dX3_copyFrom_29 : decode cX3_copyFrom 29 = .ok (.getfield 19, 3) := by decide +kernel
theorem dX3_copyFrom_32 : decode cX3_copyFrom 32 = .ok (.iload_n 2, 1) := by decide +kernel
theorem dX3_copyFrom_33 : decode cX3_copyFrom 33 = .ok (.aload_n 1, 1) := by decide +kernel
theorem dX3_copyFrom_34 : decode cX3_copyFrom 34 = .ok (.getfield 19, 3) := by decide +kernel
theorem dX3_copyFrom_37 : decode cX3_copyFrom 37 = .ok (.iload_n 2, 1) := by decide +kernel
theorem dX3_copyFrom_38 : decode cX3_copyFrom 38 = .ok (.iaload, 1) := by decide +kernel
theorem dX3_copyFrom_39 : decode cX3_copyFrom 39 = .ok (.iastore, 1) := by decide +kernel
theorem dX3_copyFrom_40 : decode cX3_copyFrom 40 = .ok (.aload_n 0, 1) := by decide +kernel
theorem dX3_copyFrom_41 : decode cX3_copyFrom 41 = .ok (.getfield 22, 3) := by decide +kernel
theorem dX3_copyFrom_44 : decode cX3_copyFrom 44 = .ok (.iload_n 2, 1) := by decide +kernel
theorem dX3_copyFrom_45 : decode cX3_copyFrom 45 = .ok (.aload_n 1, 1) := by decide +kernel
theorem dX3_copyFrom_46 : decode cX3_copyFrom 46 = .ok (.getfield 22, 3) := by decide +kernel
theorem dX3_copyFrom_49 : decode cX3_copyFrom 49 = .ok (.iload_n 2, 1) := by decide +kernel
theorem dX3_copyFrom_50 : decode cX3_copyFrom 50 = .ok (.iaload, 1) := by decide +kernel
theorem dX3_copyFrom_51 : decode cX3_copyFrom 51 = .ok (.iastore, 1) := by decide +kernel
theorem dX3_copyFrom_52 : decode cX3_copyFrom 52 = .ok (.aload_n 0, 1) := by decide +kernel
theorem dX3_copyFrom_53 : decode cX3_copyFrom 53 = .ok (.getfield 25, 3) := by decide +kernel
theorem dX3_copyFrom_56 : decode cX3_copyFrom 56 = .ok (.iload_n 2, 1) := by decide +kernel
theorem dX3_copyFrom_57 : decode cX3_copyFrom 57 = .ok (.aload_n 1, 1) := by decide +kernel
theorem dX3_copyFrom_58 : decode cX3_copyFrom 58 = .ok (.getfield 25, 3) := by decide +kernel
theorem dX3_copyFrom_61 : decode cX3_copyFrom 61 = .ok (.iload_n 2, 1) := by decide +kernel
theorem dX3_copyFrom_62 : decode cX3_copyFrom 62 = .ok (.baload, 1) := by decide +kernel
theorem dX3_copyFrom_63 : decode cX3_copyFrom 63 = .ok (.bastore, 1) := by decide +kernel
theorem dX3_copyFrom_64 : decode cX3_copyFrom 64 = .ok (.iinc 2 1, 3) := by decide +kernel
theorem dX3_copyFrom_67 : decode cX3_copyFrom 67 = .ok (.goto (-57), 3) := by decide +kernel
theorem dX3_copyFrom_70 : decode cX3_copyFrom 70 = .ok (.return_, 1) := by decide +kernel
theorem dX3_possibleOunces_0 : decode cX3_possibleOunces 0 = .ok (.sipush 511, 3) := by decide +kernel
theorem dX3_possibleOunces_3 : decode cX3_possibleOunces 3 = .ok (.istore_n 3, 1) := by decide +kernel
theorem dX3_possibleOunces_4 : decode cX3_possibleOunces 4 = .ok (.aload_n 1, 1) := by decide +kernel
theorem dX3_possibleOunces_5 : decode cX3_possibleOunces 5 = .ok (.getfield 32, 3) := by decide +kernel
theorem dX3_possibleOunces_8 : decode cX3_possibleOunces 8 = .ok (.iload_n 2, 1) := by decide +kernel
theorem dX3_possibleOunces_9 : decode cX3_possibleOunces 9 = .ok (.iaload, 1) := by decide +kernel
theorem dX3_possibleOunces_10 : decode cX3_possibleOunces 10 = .ok (.iconst (-1), 1) := by decide +kernel
theorem dX3_possibleOunces_11 : decode cX3_possibleOunces 11 = .ok (.if_icmp .ne 5, 3) := by decide +kernel
theorem dX3_possibleOunces_14 : decode cX3_possibleOunces 14 = .ok (.iload_n 3, 1) := by decide +kernel
theorem dX3_possibleOunces_15 : decode cX3_possibleOunces 15 = .ok (.ireturn, 1) := by decide +kernel
theorem dX3_possibleOunces_16 : decode cX3_possibleOunces 16 = .ok (.iconst 0, 1) := by decide +kernel
theorem dX3_possibleOunces_17 : decode cX3_possibleOunces 17 = .ok (.istore 4, 2) := by decide +kernel
theorem dX3_possibleOunces_19 : decode cX3_possibleOunces 19 = .ok (.iload 4, 2) := by decide +kernel
theorem dX3_possibleOunces_21 : decode cX3_possibleOunces 21 = .ok (.aload_n 0, 1) := by decide +kernel
theorem dX3_possibleOunces_22 : decode cX3_possibleOunces 22 = .ok (.getfield 9, 3) := by decide +kernel
theorem dX3_possibleOunces_25 : decode cX3_possibleOunces 25 = .ok (.if_icmp .ge 81, 3) := by decide +kernel
theorem dX3_possibleOunces_28 : decode cX3_possibleOunces 28 = .ok (.iconst 1, 1) := by decide +kernel
theorem dX3_possibleOunces_29 : decode cX3_possibleOunces 29 = .ok (.istore 5, 2) := by decide +kernel
theorem dX3_possibleOunces_31 : decode cX3_possibleOunces 31 = .ok (.iload 5, 2) := by decide +kernel
theorem dX3_possibleOunces_33 : decode cX3_possibleOunces 33 = .ok (.bipush 9, 2) := by decide +kernel
theorem dX3_possibleOunces_35 : decode cX3_possibleOunces 35 = .ok (.if_icmp .gt 65, 3) := by decide +kernel
theorem dX3_possibleOunces_38 : decode cX3_possibleOunces 38 = .ok (.aload_n 0, 1) := by decide +kernel
theorem dX3_possibleOunces_39 : decode cX3_possibleOunces 39 = .ok (.getfield 15, 3) := by decide +kernel
theorem dX3_possibleOunces_42 : decode cX3_possibleOunces 42 = .ok (.iload 4, 2) := by decide +kernel
theorem dX3_possibleOunces_44 : decode cX3_possibleOunces 44 = .ok (.iaload, 1) := by decide +kernel
theorem dX3_possibleOunces_45 : decode cX3_possibleOunces 45 = .ok (.iload_n 2, 1) := by decide +kernel
theorem dX3_possibleOunces_46 : decode cX3_possibleOunces 46 = .ok (.if_icmp .ne 54, 3) := by decide +kernel
theorem dX3_possibleOunces_49 : decode cX3_possibleOunces 49 = .ok (.aload_n 1, 1) := by decide +kernel
theorem dX3_possibleOunces_50 : decode cX3_possibleOunces 50 = .ok (.iload_n 2, 1) := by decide +kernel
theorem dX3_possibleOunces_51 : decode cX3_possibleOunces 51 = .ok (.iload 5, 2) := by decide +kernel
theorem dX3_possibleOunces_53 : decode cX3_possibleOunces 53 = .ok (.aload_n 0, 1) := by decide +kernel
theorem dX3_possibleOunces_54 : decode cX3_possibleOunces 54 = .ok (.getfield 19, 3) := by decide +kernel
theorem dX3_possibleOunces_57 : decode cX3_possibleOunces 57 = .ok (.iload 4, 2) := by decide +kernel
theorem dX3_possibleOunces_59 : decode cX3_possibleOunces 59 = .ok (.iaload, 1) := by decide +kernel
theorem dX3_possibleOunces_60 : decode cX3_possibleOunces 60 = .ok (.invokevirtual 37, 3) := by decide +kernel
theorem dX3_possibleOunces_63 : decode cX3_possibleOunces 63 = .ok (.aload_n 0, 1) := by decide +kernel
theorem dX3_possibleOunces_64 : decode cX3_possibleOunces 64 = .ok (.getfield 22, 3) := by decide +kernel
theorem dX3_possibleOunces_67 : decode cX3_possibleOunces 67 = .ok (.iload 4, 2) := by decide +kernel
theorem dX3_possibleOunces_69 : decode cX3_possibleOunces 69 = .ok (.iaload, 1) := by decide +kernel
theorem dX3_possibleOunces_70 : decode cX3_possibleOunces 70 = .ok (.invokestatic 41, 3) := by decide +kernel
theorem dX3_possibleOunces_73 : decode cX3_possibleOunces 73 = .ok (.aload_n 0, 1) := by decide +kernel
theorem dX3_possibleOunces_74 : decode cX3_possibleOunces 74 = .ok (.getfield 25, 3) := by decide +kernel
theorem dX3_possibleOunces_77 : decode cX3_possibleOunces 77 = .ok (.iload 4, 2) := by decide +kernel
theorem dX3_possibleOunces_79 : decode cX3_possibleOunces 79 = .ok (.baload, 1) := by decide +kernel
theorem dX3_possibleOunces_80 : decode cX3_possibleOunces 80 = .ok (.if_icmp .eq 14, 3) := by decide +kernel
theorem dX3_possibleOunces_83 : decode cX3_possibleOunces 83 = .ok (.iload_n 3, 1) := by decide +kernel
theorem dX3_possibleOunces_84 : decode cX3_possibleOunces 84 = .ok (.iconst 1, 1) := by decide +kernel
theorem dX3_possibleOunces_85 : decode cX3_possibleOunces 85 = .ok (.iload 5, 2) := by decide +kernel
theorem dX3_possibleOunces_87 : decode cX3_possibleOunces 87 = .ok (.iconst 1, 1) := by decide +kernel
theorem dX3_possibleOunces_88 : decode cX3_possibleOunces 88 = .ok (.isub, 1) := by decide +kernel
theorem dX3_possibleOunces_89 : decode cX3_possibleOunces 89 = .ok (.ishl, 1) := by decide +kernel
theorem dX3_possibleOunces_90 : decode cX3_possibleOunces 90 = .ok (.iconst (-1), 1) := by decide +kernel
theorem dX3_possibleOunces_91 : decode cX3_possibleOunces 91 = .ok (.ixor, 1) := by decide +kernel
theorem dX3_possibleOunces_92 : decode cX3_possibleOunces 92 = .ok (.iand, 1) := by decide +kernel
theorem dX3_possibleOunces_93 : decode cX3_possibleOunces 93 = .ok (.istore_n 3, 1) := by decide +kernel
theorem dX3_possibleOunces_94 : decode cX3_possibleOunces 94 = .ok (.iinc 5 1, 3) := by decide +kernel
theorem dX3_possibleOunces_97 : decode cX3_possibleOunces 97 = .ok (.goto (-66), 3) := by decide +kernel
theorem dX3_possibleOunces_100 : decode cX3_possibleOunces 100 = .ok (.iinc 4 1, 3) := by decide +kernel
theorem dX3_possibleOunces_103 : decode cX3_possibleOunces 103 = .ok (.goto (-84), 3) := by decide +kernel
theorem dX3_possibleOunces_106 : decode cX3_possibleOunces 106 = .ok (.iload_n 3, 1) := by decide +kernel
theorem dX3_possibleOunces_107 : decode cX3_possibleOunces 107 = .ok (.ireturn, 1) := by decide +kernel
theorem dX3_windToWaitFor_0 : decode cX3_windToWaitFor 0 = .ok (.aload_n 0, 1) := by decide +kernel
theorem dX3_windToWaitFor_1 : decode cX3_windToWaitFor 1 = .ok (.aload_n 1, 1) := by decide +kernel
theorem dX3_windToWaitFor_2 : decode cX3_windToWaitFor 2 = .ok (.iload_n 2, 1) := by decide +kernel
theorem dX3_windToWaitFor_3 : decode cX3_windToWaitFor 3 = .ok (.invokevirtual 45, 3) := by decide +kernel
theorem dX3_windToWaitFor_6 : decode cX3_windToWaitFor 6 = .ok (.istore_n 3, 1) := by decide +kernel
theorem dX3_windToWaitFor_7 : decode cX3_windToWaitFor 7 = .ok (.iload_n 3, 1) := by decide +kernel
theorem dX3_windToWaitFor_8 : decode cX3_windToWaitFor 8 = .ok (.ifCond .eq 13, 3) := by decide +kernel
theorem dX3_windToWaitFor_11 : decode cX3_windToWaitFor 11 = .ok (.aload_n 1, 1) := by decide +kernel
theorem dX3_windToWaitFor_12 : decode cX3_windToWaitFor 12 = .ok (.getfield 32, 3) := by decide +kernel
theorem dX3_windToWaitFor_15 : decode cX3_windToWaitFor 15 = .ok (.iload_n 2, 1) := by decide +kernel
theorem dX3_windToWaitFor_16 : decode cX3_windToWaitFor 16 = .ok (.iaload, 1) := by decide +kernel
theorem dX3_windToWaitFor_17 : decode cX3_windToWaitFor 17 = .ok (.iconst (-1), 1) := by decide +kernel
theorem dX3_windToWaitFor_18 : decode cX3_windToWaitFor 18 = .ok (.if_icmp .ne 5, 3) := by decide +kernel
theorem dX3_windToWaitFor_21 : decode cX3_windToWaitFor 21 = .ok (.iconst (-1), 1) := by decide +kernel
theorem dX3_windToWaitFor_22 : decode cX3_windToWaitFor 22 = .ok (.ireturn, 1) := by decide +kernel
theorem dX3_windToWaitFor_23 : decode cX3_windToWaitFor 23 = .ok (.iconst (-1), 1) := by decide +kernel
theorem dX3_windToWaitFor_24 : decode cX3_windToWaitFor 24 = .ok (.istore 4, 2) := by decide +kernel
theorem dX3_windToWaitFor_26 : decode cX3_windToWaitFor 26 = .ok (.bipush 10, 2) := by decide +kernel
theorem dX3_windToWaitFor_28 : decode cX3_windToWaitFor 28 = .ok (.istore 5, 2) := by decide +kernel
theorem dX3_windToWaitFor_30 : decode cX3_windToWaitFor 30 = .ok (.iconst 0, 1) := by decide +kernel
theorem dX3_windToWaitFor_31 : decode cX3_windToWaitFor 31 = .ok (.istore 6, 2) := by decide +kernel
theorem dX3_windToWaitFor_33 : decode cX3_windToWaitFor 33 = .ok (.iload 6, 2) := by decide +kernel
theorem dX3_windToWaitFor_35 : decode cX3_windToWaitFor 35 = .ok (.iconst 2, 1) := by decide +kernel
theorem dX3_windToWaitFor_36 : decode cX3_windToWaitFor 36 = .ok (.if_icmp .ge 63, 3) := by decide +kernel
theorem dX3_windToWaitFor_39 : decode cX3_windToWaitFor 39 = .ok (.aload_n 0, 1) := by decide +kernel
theorem dX3_windToWaitFor_40 : decode cX3_windToWaitFor 40 = .ok (.aload_n 1, 1) := by decide +kernel
theorem dX3_windToWaitFor_41 : decode cX3_windToWaitFor 41 = .ok (.iload_n 2, 1) := by decide +kernel
theorem dX3_windToWaitFor_42 : decode cX3_windToWaitFor 42 = .ok (.iload 6, 2) := by decide +kernel
theorem dX3_windToWaitFor_44 : decode cX3_windToWaitFor 44 = .ok (.invokevirtual 49, 3) := by decide +kernel
theorem dX3_windToWaitFor_47 : decode cX3_windToWaitFor 47 = .ok (.iconst 0, 1) := by decide +kernel
theorem dX3_windToWaitFor_48 : decode cX3_windToWaitFor 48 = .ok (.istore 7, 2) := by decide +kernel
theorem dX3_windToWaitFor_50 : decode cX3_windToWaitFor 50 = .ok (.iload 7, 2) := by decide +kernel
theorem dX3_windToWaitFor_52 : decode cX3_windToWaitFor 52 = .ok (.bipush 99, 2) := by decide +kernel
theorem dX3_windToWaitFor_54 : decode cX3_windToWaitFor 54 = .ok (.if_icmp .gt 39, 3) := by decide +kernel
theorem dX3_windToWaitFor_57 : decode cX3_windToWaitFor 57 = .ok (.aload_n 0, 1) := by decide +kernel
theorem dX3_windToWaitFor_58 : decode cX3_windToWaitFor 58 = .ok (.iload_n 3, 1) := by decide +kernel
theorem dX3_windToWaitFor_59 : decode cX3_windToWaitFor 59 = .ok (.iload 7, 2) := by decide +kernel
theorem dX3_windToWaitFor_61 : decode cX3_windToWaitFor 61 = .ok (.invokevirtual 53, 3) := by decide +kernel
theorem dX3_windToWaitFor_64 : decode cX3_windToWaitFor 64 = .ok (.istore 8, 2) := by decide +kernel
theorem dX3_windToWaitFor_66 : decode cX3_windToWaitFor 66 = .ok (.iload 8, 2) := by decide +kernel
theorem dX3_windToWaitFor_68 : decode cX3_windToWaitFor 68 = .ok (.iload 5, 2) := by decide +kernel
theorem dX3_windToWaitFor_70 : decode cX3_windToWaitFor 70 = .ok (.if_icmp .ge 17, 3) := by decide +kernel
theorem dX3_windToWaitFor_73 : decode cX3_windToWaitFor 73 = .ok (.iload 8, 2) := by decide +kernel
theorem dX3_windToWaitFor_75 : decode cX3_windToWaitFor 75 = .ok (.istore 5, 2) := by decide +kernel
theorem dX3_windToWaitFor_77 : decode cX3_windToWaitFor 77 = .ok (.bipush 100, 2) := by decide +kernel
theorem dX3_windToWaitFor_79 : decode cX3_windToWaitFor 79 = .ok (.iload 6, 2) := by decide +kernel
theorem dX3_windToWaitFor_81 : decode cX3_windToWaitFor 81 = .ok (.imul, 1) := by decide +kernel
theorem dX3_windToWaitFor_82 : decode cX3_windToWaitFor 82 = .ok (.iload 7, 2) := by decide +kernel
theorem dX3_windToWaitFor_84 : decode cX3_windToWaitFor 84 = .ok (.iadd, 1) := by decide +kernel
theorem dX3_windToWaitFor_85 : decode cX3_windToWaitFor 85 = .ok (.istore 4, 2) := by decide +kernel
theorem dX3_windToWaitFor_87 : decode cX3_windToWaitFor 87 = .ok (.iinc 7 1, 3) := by decide +kernel
theorem dX3_windToWaitFor_90 : decode cX3_windToWaitFor 90 = .ok (.goto (-40), 3) := by decide +kernel
theorem dX3_windToWaitFor_93 : decode cX3_windToWaitFor 93 = .ok (.iinc 6 1, 3) := by decide +kernel
theorem dX3_windToWaitFor_96 : decode cX3_windToWaitFor 96 = .ok (.goto (-63), 3) := by decide +kernel
theorem dX3_windToWaitFor_99 : decode cX3_windToWaitFor 99 = .ok (.iload 4, 2) := by decide +kernel
theorem dX3_windToWaitFor_101 : decode cX3_windToWaitFor 101 = .ok (.ireturn, 1) := by decide +kernel
theorem dX3_fillHolds_0 : decode cX3_fillHolds 0 = .ok (.iconst 1, 1) := by decide +kernel
theorem dX3_fillHolds_1 : decode cX3_fillHolds 1 = .ok (.istore 4, 2) := by decide +kernel
theorem dX3_fillHolds_3 : decode cX3_fillHolds 3 = .ok (.iload 4, 2) := by decide +kernel
theorem dX3_fillHolds_5 : decode cX3_fillHolds 5 = .ok (.bipush 9, 2) := by decide +kernel
theorem dX3_fillHolds_7 : decode cX3_fillHolds 7 = .ok (.if_icmp .gt 24, 3) := by decide +kernel
theorem dX3_fillHolds_10 : decode cX3_fillHolds 10 = .ok (.aload_n 0, 1) := by decide +kernel
theorem dX3_fillHolds_11 : decode cX3_fillHolds 11 = .ok (.getfield 29, 3) := by decide +kernel
theorem dX3_fillHolds_14 : decode cX3_fillHolds 14 = .ok (.iload 4, 2) := by decide +kernel
theorem dX3_fillHolds_16 : decode cX3_fillHolds 16 = .ok (.aload_n 1, 1) := by decide +kernel
theorem dX3_fillHolds_17 : decode cX3_fillHolds 17 = .ok (.iload_n 2, 1) := by decide +kernel
theorem dX3_fillHolds_18 : decode cX3_fillHolds 18 = .ok (.iload 4, 2) := by decide +kernel
theorem dX3_fillHolds_20 : decode cX3_fillHolds 20 = .ok (.iload_n 3, 1) := by decide +kernel
theorem dX3_fillHolds_21 : decode cX3_fillHolds 21 = .ok (.invokevirtual 37, 3) := by decide +kernel
theorem dX3_fillHolds_24 : decode cX3_fillHolds 24 = .ok (.iastore, 1) := by decide +kernel
theorem dX3_fillHolds_25 : decode cX3_fillHolds 25 = .ok (.iinc 4 1, 3) := by decide +kernel
theorem dX3_fillHolds_28 : decode cX3_fillHolds 28 = .ok (.goto (-25), 3) := by decide +kernel
theorem dX3_fillHolds_31 : decode cX3_fillHolds 31 = .ok (.return_, 1) := by decide +kernel
theorem dX3_leftAtWorst_0 : decode cX3_leftAtWorst 0 = .ok (.iconst 0, 1) := by decide +kernel
theorem dX3_leftAtWorst_1 : decode cX3_leftAtWorst 1 = .ok (.istore_n 3, 1) := by decide +kernel
theorem dX3_leftAtWorst_2 : decode cX3_leftAtWorst 2 = .ok (.iconst 1, 1) := by decide +kernel
theorem dX3_leftAtWorst_3 : decode cX3_leftAtWorst 3 = .ok (.istore 4, 2) := by decide +kernel
theorem dX3_leftAtWorst_5 : decode cX3_leftAtWorst 5 = .ok (.iload 4, 2) := by decide +kernel
theorem dX3_leftAtWorst_7 : decode cX3_leftAtWorst 7 = .ok (.bipush 9, 2) := by decide +kernel
theorem dX3_leftAtWorst_9 : decode cX3_leftAtWorst 9 = .ok (.if_icmp .gt 38, 3) := by decide +kernel
theorem dX3_leftAtWorst_12 : decode cX3_leftAtWorst 12 = .ok (.iload_n 1, 1) := by decide +kernel
theorem dX3_leftAtWorst_13 : decode cX3_leftAtWorst 13 = .ok (.iload 4, 2) := by decide +kernel
theorem dX3_leftAtWorst_15 : decode cX3_leftAtWorst 15 = .ok (.iconst 1, 1) := by decide +kernel
theorem dX3_leftAtWorst_16 : decode cX3_leftAtWorst 16 = .ok (.isub, 1) := by decide +kernel
theorem dX3_leftAtWorst_17 : decode cX3_leftAtWorst 17 = .ok (.ishr, 1) := by decide +kernel
theorem dX3_leftAtWorst_18 : decode cX3_leftAtWorst 18 = .ok (.iconst 1, 1) := by decide +kernel
theorem dX3_leftAtWorst_19 : decode cX3_leftAtWorst 19 = .ok (.iand, 1) := by decide +kernel
theorem dX3_leftAtWorst_20 : decode cX3_leftAtWorst 20 = .ok (.iconst 1, 1) := by decide +kernel
theorem dX3_leftAtWorst_21 : decode cX3_leftAtWorst 21 = .ok (.if_icmp .ne 20, 3) := by decide +kernel
theorem dX3_leftAtWorst_24 : decode cX3_leftAtWorst 24 = .ok (.aload_n 0, 1) := by decide +kernel
theorem dX3_leftAtWorst_25 : decode cX3_leftAtWorst 25 = .ok (.getfield 29, 3) := by decide +kernel
theorem dX3_leftAtWorst_28 : decode cX3_leftAtWorst 28 = .ok (.iload 4, 2) := by decide +kernel
theorem dX3_leftAtWorst_30 : decode cX3_leftAtWorst 30 = .ok (.iaload, 1) := by decide +kernel
theorem dX3_leftAtWorst_31 : decode cX3_leftAtWorst 31 = .ok (.iload_n 2, 1) := by decide +kernel
theorem dX3_leftAtWorst_32 : decode cX3_leftAtWorst 32 = .ok (.invokestatic 41, 3) := by decide +kernel
theorem dX3_leftAtWorst_35 : decode cX3_leftAtWorst 35 = .ok (.ifCond .eq 6, 3) := by decide +kernel
theorem dX3_leftAtWorst_38 : decode cX3_leftAtWorst 38 = .ok (.iinc 3 1, 3) := by decide +kernel
theorem dX3_leftAtWorst_41 : decode cX3_leftAtWorst 41 = .ok (.iinc 4 1, 3) := by decide +kernel
theorem dX3_leftAtWorst_44 : decode cX3_leftAtWorst 44 = .ok (.goto (-39), 3) := by decide +kernel
theorem dX3_leftAtWorst_47 : decode cX3_leftAtWorst 47 = .ok (.iload_n 3, 1) := by decide +kernel
theorem dX3_leftAtWorst_48 : decode cX3_leftAtWorst 48 = .ok (.iload_n 1, 1) := by decide +kernel
theorem dX3_leftAtWorst_49 : decode cX3_leftAtWorst 49 = .ok (.invokestatic 57, 3) := by decide +kernel
theorem dX3_leftAtWorst_52 : decode cX3_leftAtWorst 52 = .ok (.iload_n 3, 1) := by decide +kernel
theorem dX3_leftAtWorst_53 : decode cX3_leftAtWorst 53 = .ok (.isub, 1) := by decide +kernel
theorem dX3_leftAtWorst_54 : decode cX3_leftAtWorst 54 = .ok (.invokestatic 63, 3) := by decide +kernel
theorem dX3_leftAtWorst_57 : decode cX3_leftAtWorst 57 = .ok (.ireturn, 1) := by decide +kernel
theorem dX4_init_0 : decode cX4_init 0 = .ok (.aload_n 0, 1) := by decide +kernel
theorem dX4_init_1 : decode cX4_init 1 = .ok (.invokespecial 3, 3) := by decide +kernel
theorem dX4_init_4 : decode cX4_init 4 = .ok (.aload_n 0, 1) := by decide +kernel
theorem dX4_init_5 : decode cX4_init 5 = .ok (.new 9, 3) := by decide +kernel
theorem dX4_init_8 : decode cX4_init 8 = .ok (.dup, 1) := by decide +kernel
theorem dX4_init_9 : decode cX4_init 9 = .ok (.invokespecial 11, 3) := by decide +kernel
theorem dX4_init_12 : decode cX4_init 12 = .ok (.putfield 12, 3) := by decide +kernel
theorem dX4_init_15 : decode cX4_init 15 = .ok (.aload_n 0, 1) := by decide +kernel
theorem dX4_init_16 : decode cX4_init 16 = .ok (.new 16, 3) := by decide +kernel
theorem dX4_init_19 : decode cX4_init 19 = .ok (.dup, 1) := by decide +kernel
theorem dX4_init_20 : decode cX4_init 20 = .ok (.invokespecial 18, 3) := by decide +kernel
theorem dX4_init_23 : decode cX4_init 23 = .ok (.putfield 19, 3) := by decide +kernel
theorem dX4_init_26 : decode cX4_init 26 = .ok (.aload_n 0, 1) := by decide +kernel
theorem dX4_init_27 : decode cX4_init 27 = .ok (.new 23, 3) := by decide +kernel
theorem dX4_init_30 : decode cX4_init 30 = .ok (.dup, 1) := by decide +kernel
theorem dX4_init_31 : decode cX4_init 31 = .ok (.invokespecial 25, 3) := by decide +kernel
theorem dX4_init_34 : decode cX4_init 34 = .ok (.putfield 26, 3) := by decide +kernel
theorem dX4_init_37 : decode cX4_init 37 = .ok (.aload_n 0, 1) := by decide +kernel
theorem dX4_init_38 : decode cX4_init 38 = .ok (.new 16, 3) := by decide +kernel
theorem dX4_init_41 : decode cX4_init 41 = .ok (.dup, 1) := by decide +kernel
theorem dX4_init_42 : decode cX4_init 42 = .ok (.invokespecial 18, 3) := by decide +kernel
theorem dX4_init_45 : decode cX4_init 45 = .ok (.putfield 30, 3) := by decide +kernel
theorem dX4_init_48 : decode cX4_init 48 = .ok (.aload_n 0, 1) := by decide +kernel
theorem dX4_init_49 : decode cX4_init 49 = .ok (.new 23, 3) := by decide +kernel
theorem dX4_init_52 : decode cX4_init 52 = .ok (.dup, 1) := by decide +kernel
theorem dX4_init_53 : decode cX4_init 53 = .ok (.invokespecial 25, 3) := by decide +kernel
theorem dX4_init_56 : decode cX4_init 56 = .ok (.putfield 33, 3) := by decide +kernel
theorem dX4_init_59 : decode cX4_init 59 = .ok (.aload_n 0, 1) := by decide +kernel
theorem dX4_init_60 : decode cX4_init 60 = .ok (.new 16, 3) := by decide +kernel
theorem dX4_init_63 : decode cX4_init 63 = .ok (.dup, 1) := by decide +kernel
theorem dX4_init_64 : decode cX4_init 64 = .ok (.invokespecial 18, 3) := by decide +kernel
theorem dX4_init_67 : decode cX4_init 67 = .ok (.putfield 36, 3) := by decide +kernel
theorem dX4_init_70 : decode cX4_init 70 = .ok (.aload_n 0, 1) := by decide +kernel
theorem dX4_init_71 : decode cX4_init 71 = .ok (.new 39, 3) := by decide +kernel
theorem dX4_init_74 : decode cX4_init 74 = .ok (.dup, 1) := by decide +kernel
theorem dX4_init_75 : decode cX4_init 75 = .ok (.invokespecial 41, 3) := by decide +kernel
theorem dX4_init_78 : decode cX4_init 78 = .ok (.putfield 42, 3) := by decide +kernel
theorem dX4_init_81 : decode cX4_init 81 = .ok (.aload_n 0, 1) := by decide +kernel
theorem dX4_init_82 : decode cX4_init 82 = .ok (.iconst 0, 1) := by decide +kernel
theorem dX4_init_83 : decode cX4_init 83 = .ok (.putfield 46, 3) := by decide +kernel
theorem dX4_init_86 : decode cX4_init 86 = .ok (.aload_n 0, 1) := by decide +kernel
theorem dX4_init_87 : decode cX4_init 87 = .ok (.iconst 0, 1) := by decide +kernel
theorem dX4_init_88 : decode cX4_init 88 = .ok (.putfield 50, 3) := by decide +kernel
theorem dX4_init_91 : decode cX4_init 91 = .ok (.aload_n 0, 1) := by decide +kernel
theorem dX4_init_92 : decode cX4_init 92 = .ok (.iconst 0, 1) := by decide +kernel
theorem dX4_init_93 : decode cX4_init 93 = .ok (.putfield 54, 3) := by decide +kernel
theorem dX4_init_96 : decode cX4_init 96 = .ok (.return_, 1) := by decide +kernel
theorem dX4_letter_0 : decode cX4_letter 0 = .ok (.iload_n 1, 1) := by decide +kernel
theorem dX4_letter_1 : decode cX4_letter 1 = .ok (.bipush 32, 2) := by decide +kernel
theorem dX4_letter_3 : decode cX4_letter 3 = .ok (.if_icmp .lt 9, 3) := by decide +kernel
theorem dX4_letter_6 : decode cX4_letter 6 = .ok (.iload_n 1, 1) := by decide +kernel
theorem dX4_letter_7 : decode cX4_letter 7 = .ok (.bipush 126, 2) := by decide +kernel
theorem dX4_letter_9 : decode cX4_letter 9 = .ok (.if_icmp .le 6, 3) := by decide +kernel
theorem dX4_letter_12 : decode cX4_letter 12 = .ok (.bipush (-102), 2) := by decide +kernel
theorem dX4_letter_14 : decode cX4_letter 14 = .ok (.ireturn, 1) := by decide +kernel
theorem dX4_letter_15 : decode cX4_letter 15 = .ok (.aload_n 0, 1) := by decide +kernel
theorem dX4_letter_16 : decode cX4_letter 16 = .ok (.getfield 12, 3) := by decide +kernel
theorem dX4_letter_19 : decode cX4_letter 19 = .ok (.getfield 57, 3) := by decide +kernel
theorem dX4_letter_22 : decode cX4_letter 22 = .ok (.bipush 36, 2) := by decide +kernel
theorem dX4_letter_24 : decode cX4_letter 24 = .ok (.if_icmp .lt 6, 3) := by decide +kernel
theorem dX4_letter_27 : decode cX4_letter 27 = .ok (.bipush (-104), 2) := by decide +kernel
theorem dX4_letter_29 : decode cX4_letter 29 = .ok (.ireturn, 1) := by decide +kernel
theorem dX4_letter_30 : decode cX4_letter 30 = .ok (.aload_n 0, 1) := by decide +kernel
theorem dX4_letter_31 : decode cX4_letter 31 = .ok (.getfield 12, 3) := by decide +kernel
theorem dX4_letter_34 : decode cX4_letter 34 = .ok (.iload_n 1, 1) := by decide +kernel
theorem dX4_letter_35 : decode cX4_letter 35 = .ok (.invokevirtual 60, 3) := by decide +kernel
theorem dX4_letter_38 : decode cX4_letter 38 = .ok (.aload_n 0, 1) := by decide +kernel
theorem dX4_letter_39 : decode cX4_letter 39 = .ok (.getfield 12, 3) := by decide +kernel
theorem dX4_letter_42 : decode cX4_letter 42 = .ok (.getfield 57, 3) := by decide +kernel
theorem dX4_letter_45 : decode cX4_letter 45 = .ok (.ireturn, 1) := by decide +kernel
theorem dX4_blank_0 : decode cX4_blank 0 = .ok (.aload_n 0, 1) := by decide +kernel
theorem dX4_blank_1 : decode cX4_blank 1 = .ok (.getfield 12, 3) := by decide +kernel
theorem dX4_blank_4 : decode cX4_blank 4 = .ok (.getfield 57, 3) := by decide +kernel
theorem dX4_blank_7 : decode cX4_blank 7 = .ok (.istore_n 1, 1) := by decide +kernel
theorem dX4_blank_8 : decode cX4_blank 8 = .ok (.aload_n 0, 1) := by decide +kernel
theorem dX4_blank_9 : decode cX4_blank 9 = .ok (.getfield 12, 3) := by decide +kernel
theorem dX4_blank_12 : decode cX4_blank 12 = .ok (.iconst 0, 1) := by decide +kernel
theorem dX4_blank_13 : decode cX4_blank 13 = .ok (.putfield 57, 3) := by decide +kernel
theorem dX4_blank_16 : decode cX4_blank 16 = .ok (.iload_n 1, 1) := by decide +kernel
theorem dX4_blank_17 : decode cX4_blank 17 = .ok (.ireturn, 1) := by decide +kernel
theorem dX4_fault_0 : decode cX4_fault 0 = .ok (.aload_n 0, 1) := by decide +kernel
theorem dX4_fault_1 : decode cX4_fault 1 = .ok (.getfield 12, 3) := by decide +kernel
theorem dX4_fault_4 : decode cX4_fault 4 = .ok (.invokevirtual 64, 3) := by decide +kernel
theorem dX4_fault_7 : decode cX4_fault 7 = .ok (.ireturn, 1) := by decide +kernel
theorem dX4_table_0 : decode cX4_table 0 = .ok (.aload_n 0, 1) := by decide +kernel
theorem dX4_table_1 : decode cX4_table 1 = .ok (.getfield 12, 3) := by decide +kernel
theorem dX4_table_4 : decode cX4_table 4 = .ok (.invokevirtual 68, 3) := by decide +kernel
theorem dX4_table_7 : decode cX4_table 7 = .ok (.ifCond .ne 6, 3) := by decide +kernel
theorem dX4_table_10 : decode cX4_table 10 = .ok (.bipush (-103), 2) := by decide +kernel
theorem dX4_table_12 : decode cX4_table 12 = .ok (.ireturn, 1) := by decide +kernel
theorem dX4_table_13 : decode cX4_table 13 = .ok (.aload_n 0, 1) := by decide +kernel
theorem dX4_table_14 : decode cX4_table 14 = .ok (.getfield 12, 3) := by decide +kernel
theorem dX4_table_17 : decode cX4_table 17 = .ok (.aload_n 0, 1) := by decide +kernel
theorem dX4_table_18 : decode cX4_table 18 = .ok (.getfield 19, 3) := by decide +kernel
theorem dX4_table_21 : decode cX4_table 21 = .ok (.invokevirtual 72, 3) := by decide +kernel
theorem dX4_table_24 : decode cX4_table 24 = .ok (.aload_n 0, 1) := by decide +kernel
theorem dX4_table_25 : decode cX4_table 25 = .ok (.getfield 12, 3) := by decide +kernel
theorem dX4_table_28 : decode cX4_table 28 = .ok (.iconst 0, 1) := by decide +kernel
theorem dX4_table_29 : decode cX4_table 29 = .ok (.putfield 57, 3) := by decide +kernel
theorem dX4_table_32 : decode cX4_table 32 = .ok (.aload_n 0, 1) := by decide +kernel
theorem dX4_table_33 : decode cX4_table 33 = .ok (.getfield 26, 3) := by decide +kernel
theorem dX4_table_36 : decode cX4_table 36 = .ok (.iconst 0, 1) := by decide +kernel
theorem dX4_table_37 : decode cX4_table 37 = .ok (.putfield 76, 3) := by decide +kernel
theorem dX4_table_40 : decode cX4_table 40 = .ok (.aload_n 0, 1) := by decide +kernel
theorem dX4_table_41 : decode cX4_table 41 = .ok (.iconst 0, 1) := by decide +kernel
theorem dX4_table_42 : decode cX4_table 42 = .ok (.putfield 46, 3) := by decide +kernel
theorem dX4_table_45 : decode cX4_table 45 = .ok (.aload_n 0, 1) := by decide +kernel
theorem dX4_table_46 : decode cX4_table 46 = .ok (.dup, 1) := by decide +kernel
theorem dX4_table_47 : decode cX4_table 47 = .ok (.getfield 50, 3) := by decide +kernel
theorem dX4_table_50 : decode cX4_table 50 = .ok (.iconst 1, 1) := by decide +kernel
theorem dX4_table_51 : decode cX4_table 51 = .ok (.iadd, 1) := by decide +kernel
theorem dX4_table_52 : decode cX4_table 52 = .ok (.putfield 50, 3) := by decide +kernel
theorem dX4_table_55 : decode cX4_table 55 = .ok (.aload_n 0, 1) := by decide +kernel
theorem dX4_table_56 : decode cX4_table 56 = .ok (.getfield 19, 3) := by decide +kernel
theorem dX4_table_59 : decode cX4_table 59 = .ok (.getfield 77, 3) := by decide +kernel
theorem dX4_table_62 : decode cX4_table 62 = .ok (.ireturn, 1) := by decide +kernel
theorem dX4_weight_0 : decode cX4_weight 0 = .ok (.aload_n 0, 1) := by decide +kernel
theorem dX4_weight_1 : decode cX4_weight 1 = .ok (.iload_n 1, 1) := by decide +kernel
theorem dX4_weight_2 : decode cX4_weight 2 = .ok (.invokevirtual 80, 3) := by decide +kernel
theorem dX4_weight_5 : decode cX4_weight 5 = .ok (.ifCond .ne 6, 3) := by decide +kernel
theorem dX4_weight_8 : decode cX4_weight 8 = .ok (.bipush (-101), 2) := by decide +kernel
theorem dX4_weight_10 : decode cX4_weight 10 = .ok (.ireturn, 1) := by decide +kernel
theorem dX4_weight_11 : decode cX4_weight 11 = .ok (.iload_n 2, 1) := by decide +kernel
theorem dX4_weight_12 : decode cX4_weight 12 = .ok (.tableswitch 155 0 7 #[48, 58, 68, 78, 88, 119, 129, 142], 48) := by decide +kernel
theorem dX4_weight_60 : decode cX4_weight 60 = .ok (.aload_n 0, 1) := by decide +kernel
theorem dX4_weight_61 : decode cX4_weight 61 = .ok (.getfield 19, 3) := by decide +kernel
theorem dX4_weight_64 : decode cX4_weight 64 = .ok (.getfield 84, 3) := by decide +kernel
theorem dX4_weight_67 : decode cX4_weight 67 = .ok (.iload_n 1, 1) := by decide +kernel
theorem dX4_weight_68 : decode cX4_weight 68 = .ok (.iaload, 1) := by decide +kernel
theorem dX4_weight_69 : decode cX4_weight 69 = .ok (.ireturn, 1) := by decide +kernel
theorem dX4_weight_70 : decode cX4_weight 70 = .ok (.aload_n 0, 1) := by decide +kernel
theorem dX4_weight_71 : decode cX4_weight 71 = .ok (.getfield 19, 3) := by decide +kernel
theorem dX4_weight_74 : decode cX4_weight 74 = .ok (.getfield 88, 3) := by decide +kernel
theorem dX4_weight_77 : decode cX4_weight 77 = .ok (.iload_n 1, 1) := by decide +kernel
theorem dX4_weight_78 : decode cX4_weight 78 = .ok (.iaload, 1) := by decide +kernel
theorem dX4_weight_79 : decode cX4_weight 79 = .ok (.ireturn, 1) := by decide +kernel
theorem dX4_weight_80 : decode cX4_weight 80 = .ok (.aload_n 0, 1) := by decide +kernel
theorem dX4_weight_81 : decode cX4_weight 81 = .ok (.getfield 19, 3) := by decide +kernel
theorem dX4_weight_84 : decode cX4_weight 84 = .ok (.getfield 91, 3) := by decide +kernel
theorem dX4_weight_87 : decode cX4_weight 87 = .ok (.iload_n 1, 1) := by decide +kernel
theorem dX4_weight_88 : decode cX4_weight 88 = .ok (.iaload, 1) := by decide +kernel
theorem dX4_weight_89 : decode cX4_weight 89 = .ok (.ireturn, 1) := by decide +kernel
theorem dX4_weight_90 : decode cX4_weight 90 = .ok (.aload_n 0, 1) := by decide +kernel
theorem dX4_weight_91 : decode cX4_weight 91 = .ok (.getfield 19, 3) := by decide +kernel
theorem dX4_weight_94 : decode cX4_weight 94 = .ok (.getfield 94, 3) := by decide +kernel
theorem dX4_weight_97 : decode cX4_weight 97 = .ok (.iload_n 1, 1) := by decide +kernel
theorem dX4_weight_98 : decode cX4_weight 98 = .ok (.iaload, 1) := by decide +kernel
theorem dX4_weight_99 : decode cX4_weight 99 = .ok (.ireturn, 1) := by decide +kernel
theorem dX4_weight_100 : decode cX4_weight 100 = .ok (.aload_n 0, 1) := by decide +kernel
theorem dX4_weight_101 : decode cX4_weight 101 = .ok (.getfield 19, 3) := by decide +kernel
theorem dX4_weight_104 : decode cX4_weight 104 = .ok (.getfield 84, 3) := by decide +kernel
theorem dX4_weight_107 : decode cX4_weight 107 = .ok (.iload_n 1, 1) := by decide +kernel
theorem dX4_weight_108 : decode cX4_weight 108 = .ok (.iaload, 1) := by decide +kernel
theorem dX4_weight_109 : decode cX4_weight 109 = .ok (.aload_n 0, 1) := by decide +kernel
theorem dX4_weight_110 : decode cX4_weight 110 = .ok (.getfield 19, 3) := by decide +kernel
theorem dX4_weight_113 : decode cX4_weight 113 = .ok (.getfield 88, 3) := by decide +kernel
theorem dX4_weight_116 : decode cX4_weight 116 = .ok (.iload_n 1, 1) := by decide +kernel
theorem dX4_weight_117 : decode cX4_weight 117 = .ok (.iaload, 1) := by decide +kernel
theorem dX4_weight_118 : decode cX4_weight 118 = .ok (.aload_n 0, 1) := by decide +kernel
theorem dX4_weight_119 : decode cX4_weight 119 = .ok (.getfield 19, 3) := by decide +kernel
theorem dX4_weight_122 : decode cX4_weight 122 = .ok (.getfield 97, 3) := by decide +kernel
theorem dX4_weight_125 : decode cX4_weight 125 = .ok (.iload_n 1, 1) := by decide +kernel
theorem dX4_weight_126 : decode cX4_weight 126 = .ok (.iaload, 1) := by decide +kernel
theorem dX4_weight_127 : decode cX4_weight 127 = .ok (.invokestatic 100, 3) := by decide +kernel
theorem dX4_weight_130 : decode cX4_weight 130 = .ok (.ireturn, 1) := by decide +kernel
theorem dX4_weight_131 : decode cX4_weight 131 = .ok (.aload_n 0, 1) := by decide +kernel
theorem dX4_weight_132 : decode cX4_weight 132 = .ok (.getfield 19, 3) := by decide +kernel
theorem dX4_weight_135 : decode cX4_weight 135 = .ok (.getfield 97, 3) := by decide +kernel
theorem dX4_weight_138 : decode cX4_weight 138 = .ok (.iload_n 1, 1) := by decide +kernel
theorem dX4_weight_139 : decode cX4_weight 139 = .ok (.iaload, 1) := by decide +kernel
theorem dX4_weight_140 : decode cX4_weight 140 = .ok (.ireturn, 1) := by decide +kernel
theorem dX4_weight_141 : decode cX4_weight 141 = .ok (.aload_n 0, 1) := by decide +kernel
theorem dX4_weight_142 : decode cX4_weight 142 = .ok (.getfield 26, 3) := by decide +kernel
theorem dX4_weight_145 : decode cX4_weight 145 = .ok (.aload_n 0, 1) := by decide +kernel
theorem dX4_weight_146 : decode cX4_weight 146 = .ok (.getfield 19, 3) := by decide +kernel
theorem dX4_weight_149 : decode cX4_weight 149 = .ok (.iload_n 1, 1) := by decide +kernel
theorem dX4_weight_150 : decode cX4_weight 150 = .ok (.invokevirtual 104, 3) := by decide +kernel
theorem dX4_weight_153 : decode cX4_weight 153 = .ok (.ireturn, 1) := by decide +kernel
theorem dX4_weight_154 : decode cX4_weight 154 = .ok (.aload_n 0, 1) := by decide +kernel
theorem dX4_weight_155 : decode cX4_weight 155 = .ok (.getfield 26, 3) := by decide +kernel
theorem dX4_weight_158 : decode cX4_weight 158 = .ok (.aload_n 0, 1) := by decide +kernel
theorem dX4_weight_159 : decode cX4_weight 159 = .ok (.getfield 19, 3) := by decide +kernel
theorem dX4_weight_162 : decode cX4_weight 162 = .ok (.iload_n 1, 1) := by decide +kernel
theorem dX4_weight_163 : decode cX4_weight 163 = .ok (.invokevirtual 108, 3) := by decide +kernel
theorem dX4_weight_166 : decode cX4_weight 166 = .ok (.ireturn, 1) := by decide +kernel
theorem dX4_weight_167 : decode cX4_weight 167 = .ok (.bipush (-102), 2) := by decide +kernel
theorem dX4_weight_169 : decode cX4_weight 169 = .ok (.ireturn, 1) := by decide +kernel
theorem dX4_as_0 : decode cX4_as 0 = .ok (.aload_n 0, 1) := by decide +kernel
theorem dX4_as_1 : decode cX4_as 1 = .ok (.iload_n 1, 1) := by decide +kernel
theorem dX4_as_2 : decode cX4_as 2 = .ok (.invokevirtual 80, 3) := by decide +kernel
theorem dX4_as_5 : decode cX4_as 5 = .ok (.ifCond .ne 6, 3) := by decide +kernel
theorem dX4_as_8 : decode cX4_as 8 = .ok (.bipush (-101), 2) := by decide +kernel
theorem dX4_as_10 : decode cX4_as 10 = .ok (.ireturn, 1) := by decide +kernel
theorem dX4_as_11 : decode cX4_as 11 = .ok (.iload_n 2, 1) := by decide +kernel
theorem dX4_as_12 : decode cX4_as 12 = .ok (.ifCond .lt 8, 3) := by decide +kernel
theorem dX4_as_15 : decode cX4_as 15 = .ok (.iload_n 2, 1) := by decide +kernel
theorem dX4_as_16 : decode cX4_as 16 = .ok (.iconst 5, 1) := by decide +kernel
theorem dX4_as_17 : decode cX4_as 17 = .ok (.if_icmp .lt 6, 3) := by decide +kernel
theorem dX4_as_20 : decode cX4_as 20 = .ok (.bipush (-102), 2) := by decide +kernel
theorem dX4_as_22 : decode cX4_as 22 = .ok (.ireturn, 1) := by decide +kernel
theorem dX4_as_23 : decode cX4_as 23 = .ok (.aload_n 0, 1) := by decide +kernel
theorem dX4_as_24 : decode cX4_as 24 = .ok (.getfield 19, 3) := by decide +kernel
theorem dX4_as_27 : decode cX4_as 27 = .ok (.getfield 84, 3) := by decide +kernel
theorem dX4_as_30 : decode cX4_as 30 = .ok (.iload_n 1, 1) := by decide +kernel
theorem dX4_as_31 : decode cX4_as 31 = .ok (.iaload, 1) := by decide +kernel
theorem dX4_as_32 : decode cX4_as 32 = .ok (.iload_n 2, 1) := by decide +kernel
theorem dX4_as_33 : decode cX4_as 33 = .ok (.invokestatic 111, 3) := by decide +kernel
theorem dX4_as_36 : decode cX4_as 36 = .ok (.ifCond .eq 7, 3) := by decide +kernel
theorem dX4_as_39 : decode cX4_as 39 = .ok (.iload_n 1, 1) := by decide +kernel
theorem dX4_as_40 : decode cX4_as 40 = .ok (.goto 4, 3) := by decide +kernel
theorem dX4_as_43 : decode cX4_as 43 = .ok (.iconst (-1), 1) := by decide +kernel
theorem dX4_as_44 : decode cX4_as 44 = .ok (.ireturn, 1) := by decide +kernel
theorem dX4_village_0 : decode cX4_village 0 = .ok (.aload_n 0, 1) := by decide +kernel
theorem dX4_village_1 : decode cX4_village 1 = .ok (.iload_n 1, 1) := by decide +kernel
theorem dX4_village_2 : decode cX4_village 2 = .ok (.invokevirtual 115, 3) := by decide +kernel
theorem dX4_village_5 : decode cX4_village 5 = .ok (.ifCond .ne 6, 3) := by decide +kernel
theorem dX4_village_8 : decode cX4_village 8 = .ok (.bipush (-101), 2) := by decide +kernel
theorem dX4_village_10 : decode cX4_village 10 = .ok (.ireturn, 1) := by decide +kernel
theorem dX4_village_11 : decode cX4_village 11 = .ok (.iload_n 2, 1) := by decide +kernel
theorem dX4_village_12 : decode cX4_village 12 = .ok (.tableswitch 135 0 7 #[48, 58, 69, 80, 94, 108, 117, 126], 48) := by decide +kernel
theorem dX4_village_60 : decode cX4_village 60 = .ok (.aload_n 0, 1) := by decide +kernel
theorem dX4_village_61 : decode cX4_village 61 = .ok (.getfield 19, 3) := by decide +kernel
theorem dX4_village_64 : decode cX4_village 64 = .ok (.getfield 118, 3) := by decide +kernel
theorem dX4_village_67 : decode cX4_village 67 = .ok (.iload_n 1, 1) := by decide +kernel
theorem dX4_village_68 : decode cX4_village 68 = .ok (.iaload, 1) := by decide +kernel
theorem dX4_village_69 : decode cX4_village 69 = .ok (.ireturn, 1) := by decide +kernel
theorem dX4_village_70 : decode cX4_village 70 = .ok (.aload_n 0, 1) := by decide +kernel
theorem dX4_village_71 : decode cX4_village 71 = .ok (.getfield 19, 3) := by decide +kernel
theorem dX4_village_74 : decode cX4_village 74 = .ok (.iconst (-1), 1) := by decide +kernel
theorem dX4_village_75 : decode cX4_village 75 = .ok (.iload_n 1, 1) := by decide +kernel
theorem dX4_village_76 : decode cX4_village 76 = .ok (.iconst 0, 1) := by decide +kernel
theorem dX4_village_77 : decode cX4_village 77 = .ok (.invokevirtual 121, 3) := by decide +kernel
theorem dX4_village_80 : decode cX4_village 80 = .ok (.ireturn, 1) := by decide +kernel
theorem dX4_village_81 : decode cX4_village 81 = .ok (.aload_n 0, 1) := by decide +kernel
theorem dX4_village_82 : decode cX4_village 82 = .ok (.getfield 19, 3) := by decide +kernel
theorem dX4_village_85 : decode cX4_village 85 = .ok (.iconst (-1), 1) := by decide +kernel
theorem dX4_village_86 : decode cX4_village 86 = .ok (.iload_n 1, 1) := by decide +kernel
theorem dX4_village_87 : decode cX4_village 87 = .ok (.iconst 1, 1) := by decide +kernel
theorem dX4_village_88 : decode cX4_village 88 = .ok (.invokevirtual 121, 3) := by decide +kernel
theorem dX4_village_91 : decode cX4_village 91 = .ok (.ireturn, 1) := by decide +kernel
theorem dX4_village_92 : decode cX4_village 92 = .ok (.aload_n 0, 1) := by decide +kernel
theorem dX4_village_93 : decode cX4_village 93 = .ok (.getfield 19, 3) := by decide +kernel
theorem dX4_village_96 : decode cX4_village 96 = .ok (.iconst (-1), 1) := by decide +kernel
theorem dX4_village_97 : decode cX4_village 97 = .ok (.iload_n 1, 1) := by decide +kernel
theorem dX4_village_98 : decode cX4_village 98 = .ok (.iconst 0, 1) := by decide +kernel
theorem dX4_village_99 : decode cX4_village 99 = .ok (.invokevirtual 121, 3) := by decide +kernel
theorem dX4_village_102 : decode cX4_village 102 = .ok (.invokestatic 124, 3) := by decide +kernel
theorem dX4_village_105 : decode cX4_village 105 = .ok (.ireturn, 1) := by decide +kernel
theorem dX4_village_106 : decode cX4_village 106 = .ok (.aload_n 0, 1) := by decide +kernel
theorem dX4_village_107 : decode cX4_village 107 = .ok (.getfield 19, 3) := by decide +kernel
theorem dX4_village_110 : decode cX4_village 110 = .ok (.iconst (-1), 1) := by decide +kernel
theorem dX4_village_111 : decode cX4_village 111 = .ok (.iload_n 1, 1) := by decide +kernel
theorem dX4_village_112 : decode cX4_village 112 = .ok (.iconst 1, 1) := by decide +kernel
theorem dX4_village_113 : decode cX4_village 113 = .ok (.invokevirtual 121, 3) := by decide +kernel
theorem dX4_village_116 : decode cX4_village 116 = .ok (.invokestatic 124, 3) := by decide +kernel
theorem dX4_village_119 : decode cX4_village 119 = .ok (.ireturn, 1) := by decide +kernel
theorem dX4_village_120 : decode cX4_village 120 = .ok (.aload_n 0, 1) := by decide +kernel
theorem dX4_village_121 : decode cX4_village 121 = .ok (.getfield 19, 3) := by decide +kernel
theorem dX4_village_124 : decode cX4_village 124 = .ok (.iload_n 1, 1) := by decide +kernel
theorem dX4_village_125 : decode cX4_village 125 = .ok (.invokevirtual 128, 3) := by decide +kernel
theorem dX4_village_128 : decode cX4_village 128 = .ok (.ireturn, 1) := by decide +kernel
theorem dX4_village_129 : decode cX4_village 129 = .ok (.aload_n 0, 1) := by decide +kernel
theorem dX4_village_130 : decode cX4_village 130 = .ok (.getfield 19, 3) := by decide +kernel
theorem dX4_village_133 : decode cX4_village 133 = .ok (.iload_n 1, 1) := by decide +kernel
theorem dX4_village_134 : decode cX4_village 134 = .ok (.invokevirtual 131, 3) := by decide +kernel
theorem dX4_village_137 : decode cX4_village 137 = .ok (.ireturn, 1) := by decide +kernel
theorem dX4_village_138 : decode cX4_village 138 = .ok (.aload_n 0, 1) := by decide +kernel
theorem dX4_village_139 : decode cX4_village 139 = .ok (.getfield 19, 3) := by decide +kernel
theorem dX4_village_142 : decode cX4_village 142 = .ok (.iload_n 1, 1) := by decide +kernel
theorem dX4_village_143 : decode cX4_village 143 = .ok (.invokevirtual 134, 3) := by decide +kernel
theorem dX4_village_146 : decode cX4_village 146 = .ok (.ireturn, 1) := by decide +kernel
theorem dX4_village_147 : decode cX4_village 147 = .ok (.bipush (-102), 2) := by decide +kernel
theorem dX4_village_149 : decode cX4_village 149 = .ok (.ireturn, 1) := by decide +kernel
theorem dX4_lifts_0 : decode cX4_lifts 0 = .ok (.aload_n 0, 1) := by decide +kernel
theorem dX4_lifts_1 : decode cX4_lifts 1 = .ok (.iload_n 1, 1) := by decide +kernel
theorem dX4_lifts_2 : decode cX4_lifts 2 = .ok (.invokevirtual 115, 3) := by decide +kernel
theorem dX4_lifts_5 : decode cX4_lifts 5 = .ok (.ifCond .ne 6, 3) := by decide +kernel
theorem dX4_lifts_8 : decode cX4_lifts 8 = .ok (.bipush (-101), 2) := by decide +kernel
theorem dX4_lifts_10 : decode cX4_lifts 10 = .ok (.ireturn, 1) := by decide +kernel
theorem dX4_lifts_11 : decode cX4_lifts 11 = .ok (.iload_n 2, 1) := by decide +kernel
theorem dX4_lifts_12 : decode cX4_lifts 12 = .ok (.iload_n 3, 1) := by decide +kernel
theorem dX4_lifts_13 : decode cX4_lifts 13 = .ok (.invokestatic 137, 3) := by decide +kernel
theorem dX4_lifts_16 : decode cX4_lifts 16 = .ok (.ifCond .ne 6, 3) := by decide +kernel
theorem dX4_lifts_19 : decode cX4_lifts 19 = .ok (.bipush (-102), 2) := by decide +kernel
theorem dX4_lifts_21 : decode cX4_lifts 21 = .ok (.ireturn, 1) := by decide +kernel
theorem dX4_lifts_22 : decode cX4_lifts 22 = .ok (.aload_n 0, 1) := by decide +kernel
theorem dX4_lifts_23 : decode cX4_lifts 23 = .ok (.getfield 19, 3) := by decide +kernel
theorem dX4_lifts_26 : decode cX4_lifts 26 = .ok (.iconst (-1), 1) := by decide +kernel
theorem dX4_lifts_27 : decode cX4_lifts 27 = .ok (.iload_n 1, 1) := by decide +kernel
theorem dX4_lifts_28 : decode cX4_lifts 28 = .ok (.iload_n 2, 1) := by decide +kernel
theorem dX4_lifts_29 : decode cX4_lifts 29 = .ok (.invokevirtual 121, 3) := by decide +kernel
theorem dX4_lifts_32 : decode cX4_lifts 32 = .ok (.iload_n 3, 1) := by decide +kernel
theorem dX4_lifts_33 : decode cX4_lifts 33 = .ok (.invokestatic 140, 3) := by decide +kernel
theorem dX4_lifts_36 : decode cX4_lifts 36 = .ok (.ifCond .eq 7, 3) := by decide +kernel
theorem dX4_lifts_39 : decode cX4_lifts 39 = .ok (.iconst 1, 1) := by decide +kernel
theorem dX4_lifts_40 : decode cX4_lifts 40 = .ok (.goto 4, 3) := by decide +kernel
theorem dX4_lifts_43 : decode cX4_lifts 43 = .ok (.iconst 0, 1) := by decide +kernel
theorem dX4_lifts_44 : decode cX4_lifts 44 = .ok (.ireturn, 1) := by decide +kernel
theorem dX4_blow_0 : decode cX4_blow 0 = .ok (.iload_n 1, 1) := by decide +kernel
theorem dX4_blow_1 : decode cX4_blow 1 = .ok (.iload_n 2, 1) := by decide +kernel
theorem dX4_blow_2 : decode cX4_blow 2 = .ok (.invokestatic 137, 3) := by decide +kernel
theorem dX4_blow_5 : decode cX4_blow 5 = .ok (.ifCond .ne 6, 3) := by decide +kernel
theorem dX4_blow_8 : decode cX4_blow 8 = .ok (.bipush (-102), 2) := by decide +kernel
theorem dX4_blow_10 : decode cX4_blow 10 = .ok (.ireturn, 1) := by decide +kernel
theorem dX4_blow_11 : decode cX4_blow 11 = .ok (.aload_n 0, 1) := by decide +kernel
theorem dX4_blow_12 : decode cX4_blow 12 = .ok (.invokevirtual 143, 3) := by decide +kernel
theorem dX4_blow_15 : decode cX4_blow 15 = .ok (.ifCond .ne 6, 3) := by decide +kernel
theorem dX4_blow_18 : decode cX4_blow 18 = .ok (.bipush (-103), 2) := by decide +kernel
theorem dX4_blow_20 : decode cX4_blow 20 = .ok (.ireturn, 1) := by decide +kernel
theorem dX4_blow_21 : decode cX4_blow 21 = .ok (.aload_n 0, 1) := by decide +kernel
theorem dX4_blow_22 : decode cX4_blow 22 = .ok (.getfield 19, 3) := by decide +kernel
theorem dX4_blow_25 : decode cX4_blow 25 = .ok (.getfield 146, 3) := by decide +kernel
theorem dX4_blow_28 : decode cX4_blow 28 = .ok (.sipush 999, 3) := by decide +kernel
theorem dX4_blow_31 : decode cX4_blow 31 = .ok (.if_icmp .lt 6, 3) := by decide +kernel
theorem dX4_blow_34 : decode cX4_blow 34 = .ok (.bipush (-104), 2) := by decide +kernel
theorem dX4_blow_36 : decode cX4_blow 36 = .ok (.ireturn, 1) := by decide +kernel
theorem dX4_blow_37 : decode cX4_blow 37 = .ok (.aload_n 0, 1) := by decide +kernel
theorem dX4_blow_38 : decode cX4_blow 38 = .ok (.getfield 19, 3) := by decide +kernel
theorem dX4_blow_41 : decode cX4_blow 41 = .ok (.iload_n 1, 1) := by decide +kernel
theorem dX4_blow_42 : decode cX4_blow 42 = .ok (.iload_n 2, 1) := by decide +kernel
theorem dX4_blow_43 : decode cX4_blow 43 = .ok (.invokevirtual 149, 3) := by decide +kernel
theorem dX4_blow_46 : decode cX4_blow 46 = .ok (.ireturn, 1) := by decide +kernel
theorem dX4_put_0 : decode cX4_put 0 = .ok (.aload_n 0, 1) := by decide +kernel
theorem dX4_put_1 : decode cX4_put 1 = .ok (.iload_n 1, 1) := by decide +kernel
theorem dX4_put_2 : decode cX4_put 2 = .ok (.invokevirtual 80, 3) := by decide +kernel
theorem dX4_put_5 : decode cX4_put 5 = .ok (.ifCond .eq 11, 3) := by decide +kernel
theorem dX4_put_8 : decode cX4_put 8 = .ok (.aload_n 0, 1) := by decide +kernel
theorem dX4_put_9 : decode cX4_put 9 = .ok (.iload_n 2, 1) := by decide +kernel
theorem dX4_put_10 : decode cX4_put 10 = .ok (.invokevirtual 115, 3) := by decide +kernel
theorem dX4_put_13 : decode cX4_put 13 = .ok (.ifCond .ne 6, 3) := by decide +kernel
theorem dX4_put_16 : decode cX4_put 16 = .ok (.bipush (-101), 2) := by decide +kernel
theorem dX4_put_18 : decode cX4_put 18 = .ok (.ireturn, 1) := by decide +kernel
theorem dX4_put_19 : decode cX4_put 19 = .ok (.iload_n 3, 1) := by decide +kernel
theorem dX4_put_20 : decode cX4_put 20 = .ok (.ifCond .lt 8, 3) := by decide +kernel
theorem dX4_put_23 : decode cX4_put 23 = .ok (.iload_n 3, 1) := by decide +kernel
theorem dX4_put_24 : decode cX4_put 24 = .ok (.iconst 4, 1) := by decide +kernel
theorem dX4_put_25 : decode cX4_put 25 = .ok (.if_icmp .le 6, 3) := by decide +kernel
theorem dX4_put_28 : decode cX4_put 28 = .ok (.bipush (-102), 2) := by decide +kernel
theorem dX4_put_30 : decode cX4_put 30 = .ok (.ireturn, 1) := by decide +kernel
theorem dX4_put_31 : decode cX4_put 31 = .ok (.aload_n 0, 1) := by decide +kernel
theorem dX4_put_32 : decode cX4_put 32 = .ok (.getfield 19, 3) := by decide +kernel
theorem dX4_put_35 : decode cX4_put 35 = .ok (.getfield 91, 3) := by decide +kernel
theorem dX4_put_38 : decode cX4_put 38 = .ok (.iload_n 1, 1) := by decide +kernel
theorem dX4_put_39 : decode cX4_put 39 = .ok (.iaload, 1) := by decide +kernel
theorem dX4_put_40 : decode cX4_put 40 = .ok (.istore 4, 2) := by decide +kernel
theorem dX4_put_42 : decode cX4_put 42 = .ok (.aload_n 0, 1) := by decide +kernel
theorem dX4_put_43 : decode cX4_put 43 = .ok (.getfield 19, 3) := by decide +kernel
theorem dX4_put_46 : decode cX4_put 46 = .ok (.iload_n 1, 1) := by decide +kernel
theorem dX4_put_47 : decode cX4_put 47 = .ok (.iload_n 2, 1) := by decide +kernel
theorem dX4_put_48 : decode cX4_put 48 = .ok (.iload_n 3, 1) := by decide +kernel
theorem dX4_put_49 : decode cX4_put 49 = .ok (.invokevirtual 153, 3) := by decide +kernel
theorem dX4_put_52 : decode cX4_put 52 = .ok (.iload 4, 2) := by decide +kernel
theorem dX4_put_54 : decode cX4_put 54 = .ok (.ireturn, 1) := by decide +kernel
theorem dX4_lift_0 : decode cX4_lift 0 = .ok (.aload_n 0, 1) := by decide +kernel
theorem dX4_lift_1 : decode cX4_lift 1 = .ok (.iload_n 1, 1) := by decide +kernel
theorem dX4_lift_2 : decode cX4_lift 2 = .ok (.invokevirtual 80, 3) := by decide +kernel
theorem dX4_lift_5 : decode cX4_lift 5 = .ok (.ifCond .ne 6, 3) := by decide +kernel
theorem dX4_lift_8 : decode cX4_lift 8 = .ok (.bipush (-101), 2) := by decide +kernel
theorem dX4_lift_10 : decode cX4_lift 10 = .ok (.ireturn, 1) := by decide +kernel
theorem dX4_lift_11 : decode cX4_lift 11 = .ok (.aload_n 0, 1) := by decide +kernel
theorem dX4_lift_12 : decode cX4_lift 12 = .ok (.getfield 19, 3) := by decide +kernel
theorem dX4_lift_15 : decode cX4_lift 15 = .ok (.getfield 91, 3) := by decide +kernel
theorem dX4_lift_18 : decode cX4_lift 18 = .ok (.iload_n 1, 1) := by decide +kernel
theorem dX4_lift_19 : decode cX4_lift 19 = .ok (.iaload, 1) := by decide +kernel
theorem dX4_lift_20 : decode cX4_lift 20 = .ok (.istore_n 2, 1) := by decide +kernel
theorem dX4_lift_21 : decode cX4_lift 21 = .ok (.iload_n 2, 1) := by decide +kernel
theorem dX4_lift_22 : decode cX4_lift 22 = .ok (.iconst (-1), 1) := by decide +kernel
theorem dX4_lift_23 : decode cX4_lift 23 = .ok (.if_icmp .ne 6, 3) := by decide +kernel
theorem dX4_lift_26 : decode cX4_lift 26 = .ok (.bipush (-103), 2) := by decide +kernel
theorem dX4_lift_28 : decode cX4_lift 28 = .ok (.ireturn, 1) := by decide +kernel
theorem dX4_lift_29 : decode cX4_lift 29 = .ok (.aload_n 0, 1) := by decide +kernel
theorem dX4_lift_30 : decode cX4_lift 30 = .ok (.getfield 19, 3) := by decide +kernel
theorem dX4_lift_33 : decode cX4_lift 33 = .ok (.iload_n 1, 1) := by decide +kernel
theorem dX4_lift_34 : decode cX4_lift 34 = .ok (.iconst (-1), 1) := by decide +kernel
theorem dX4_lift_35 : decode cX4_lift 35 = .ok (.iconst (-1), 1) := by decide +kernel
theorem dX4_lift_36 : decode cX4_lift 36 = .ok (.invokevirtual 153, 3) := by decide +kernel
theorem dX4_lift_39 : decode cX4_lift 39 = .ok (.iload_n 2, 1) := by decide +kernel
theorem dX4_lift_40 : decode cX4_lift 40 = .ok (.ireturn, 1) := by decide +kernel
theorem dX4_cut_0 : decode cX4_cut 0 = .ok (.aload_n 0, 1) := by decide +kernel
theorem dX4_cut_1 : decode cX4_cut 1 = .ok (.iload_n 1, 1) := by decide +kernel
theorem dX4_cut_2 : decode cX4_cut 2 = .ok (.invokevirtual 80, 3) := by decide +kernel
theorem dX4_cut_5 : decode cX4_cut 5 = .ok (.ifCond .ne 6, 3) := by decide +kernel
theorem dX4_cut_8 : decode cX4_cut 8 = .ok (.bipush (-101), 2) := by decide +kernel
theorem dX4_cut_10 : decode cX4_cut 10 = .ok (.ireturn, 1) := by decide +kernel
theorem dX4_cut_11 : decode cX4_cut 11 = .ok (.iload_n 2, 1) := by decide +kernel
theorem dX4_cut_12 : decode cX4_cut 12 = .ok (.iconst 1, 1) := by decide +kernel
theorem dX4_cut_13 : decode cX4_cut 13 = .ok (.if_icmp .lt 9, 3) := by decide +kernel
theorem dX4_cut_16 : decode cX4_cut 16 = .ok (.iload_n 2, 1) := by decide +kernel
theorem dX4_cut_17 : decode cX4_cut 17 = .ok (.bipush 9, 2) := by decide +kernel
theorem dX4_cut_19 : decode cX4_cut 19 = .ok (.if_icmp .le 6, 3) := by decide +kernel
theorem dX4_cut_22 : decode cX4_cut 22 = .ok (.bipush (-102), 2) := by decide +kernel
theorem dX4_cut_24 : decode cX4_cut 24 = .ok (.ireturn, 1) := by decide +kernel
theorem dX4_cut_25 : decode cX4_cut 25 = .ok (.aload_n 0, 1) := by decide +kernel
theorem dX4_cut_26 : decode cX4_cut 26 = .ok (.getfield 19, 3) := by decide +kernel
theorem dX4_cut_29 : decode cX4_cut 29 = .ok (.getfield 88, 3) := by decide +kernel
theorem dX4_cut_32 : decode cX4_cut 32 = .ok (.iload_n 1, 1) := by decide +kernel
theorem dX4_cut_33 : decode cX4_cut 33 = .ok (.iaload, 1) := by decide +kernel
theorem dX4_cut_34 : decode cX4_cut 34 = .ok (.istore_n 3, 1) := by decide +kernel
theorem dX4_cut_35 : decode cX4_cut 35 = .ok (.aload_n 0, 1) := by decide +kernel
theorem dX4_cut_36 : decode cX4_cut 36 = .ok (.getfield 19, 3) := by decide +kernel
theorem dX4_cut_39 : decode cX4_cut 39 = .ok (.getfield 88, 3) := by decide +kernel
theorem dX4_cut_42 : decode cX4_cut 42 = .ok (.iload_n 1, 1) := by decide +kernel
theorem dX4_cut_43 : decode cX4_cut 43 = .ok (.iload_n 2, 1) := by decide +kernel
theorem dX4_cut_44 : decode cX4_cut 44 = .ok (.iastore, 1) := by decide +kernel
theorem dX4_cut_45 : decode cX4_cut 45 = .ok (.iload_n 3, 1) := by decide +kernel
theorem dX4_cut_46 : decode cX4_cut 46 = .ok (.ireturn, 1) := by decide +kernel
theorem dX4_build_0 : decode cX4_build 0 = .ok (.aload_n 0, 1) := by decide +kernel
theorem dX4_build_1 : decode cX4_build 1 = .ok (.iload_n 1, 1) := by decide +kernel
theorem dX4_build_2 : decode cX4_build 2 = .ok (.invokevirtual 115, 3) := by decide +kernel
theorem dX4_build_5 : decode cX4_build 5 = .ok (.ifCond .ne 6, 3) := by decide +kernel
theorem dX4_build_8 : decode cX4_build 8 = .ok (.bipush (-101), 2) := by decide +kernel
theorem dX4_build_10 : decode cX4_build 10 = .ok (.ireturn, 1) := by decide +kernel
theorem dX4_build_11 : decode cX4_build 11 = .ok (.iload_n 2, 1) := by decide +kernel
theorem dX4_build_12 : decode cX4_build 12 = .ok (.ifCond .lt 9, 3) := by decide +kernel
theorem dX4_build_15 : decode cX4_build 15 = .ok (.iload_n 2, 1) := by decide +kernel
theorem dX4_build_16 : decode cX4_build 16 = .ok (.bipush 9, 2) := by decide +kernel
theorem dX4_build_18 : decode cX4_build 18 = .ok (.if_icmp .le 6, 3) := by decide +kernel
theorem dX4_build_21 : decode cX4_build 21 = .ok (.bipush (-102), 2) := by decide +kernel
theorem dX4_build_23 : decode cX4_build 23 = .ok (.ireturn, 1) := by decide +kernel
theorem dX4_build_24 : decode cX4_build 24 = .ok (.aload_n 0, 1) := by decide +kernel
theorem dX4_build_25 : decode cX4_build 25 = .ok (.getfield 19, 3) := by decide +kernel
theorem dX4_build_28 : decode cX4_build 28 = .ok (.getfield 118, 3) := by decide +kernel
theorem dX4_build_31 : decode cX4_build 31 = .ok (.iload_n 1, 1) := by decide +kernel
theorem dX4_build_32 : decode cX4_build 32 = .ok (.iaload, 1) := by decide +kernel
theorem dX4_build_33 : decode cX4_build 33 = .ok (.istore_n 3, 1) := by decide +kernel
theorem dX4_build_34 : decode cX4_build 34 = .ok (.aload_n 0, 1) := by decide +kernel
theorem dX4_build_35 : decode cX4_build 35 = .ok (.getfield 19, 3) := by decide +kernel
theorem dX4_build_38 : decode cX4_build 38 = .ok (.getfield 118, 3) := by decide +kernel
theorem dX4_build_41 : decode cX4_build 41 = .ok (.iload_n 1, 1) := by decide +kernel
theorem dX4_build_42 : decode cX4_build 42 = .ok (.iload_n 2, 1) := by decide +kernel
theorem dX4_build_43 : decode cX4_build 43 = .ok (.iastore, 1) := by decide +kernel
theorem dX4_build_44 : decode cX4_build 44 = .ok (.iload_n 3, 1) := by decide +kernel
theorem dX4_build_45 : decode cX4_build 45 = .ok (.ireturn, 1) := by decide +kernel
theorem dX4_where_0 : decode cX4_where 0 = .ok (.aload_n 0, 1) := by decide +kernel
theorem dX4_where_1 : decode cX4_where 1 = .ok (.iload_n 1, 1) := by decide +kernel
theorem dX4_where_2 : decode cX4_where 2 = .ok (.invokevirtual 80, 3) := by decide +kernel
theorem dX4_where_5 : decode cX4_where 5 = .ok (.ifCond .eq 11, 3) := by decide +kernel
theorem dX4_where_8 : decode cX4_where 8 = .ok (.aload_n 0, 1) := by decide +kernel
theorem dX4_where_9 : decode cX4_where 9 = .ok (.iload_n 2, 1) := by decide +kernel
theorem dX4_where_10 : decode cX4_where 10 = .ok (.invokevirtual 115, 3) := by decide +kernel
theorem dX4_where_13 : decode cX4_where 13 = .ok (.ifCond .ne 6, 3) := by decide +kernel
theorem dX4_where_16 : decode cX4_where 16 = .ok (.bipush (-101), 2) := by decide +kernel
theorem dX4_where_18 : decode cX4_where 18 = .ok (.ireturn, 1) := by decide +kernel
theorem dX4_where_19 : decode cX4_where 19 = .ok (.iload_n 3, 1) := by decide +kernel
theorem dX4_where_20 : decode cX4_where 20 = .ok (.ifCond .lt 8, 3) := by decide +kernel
theorem dX4_where_23 : decode cX4_where 23 = .ok (.iload_n 3, 1) := by decide +kernel
theorem dX4_where_24 : decode cX4_where 24 = .ok (.iconst 1, 1) := by decide +kernel
theorem dX4_where_25 : decode cX4_where 25 = .ok (.if_icmp .le 6, 3) := by decide +kernel
theorem dX4_where_28 : decode cX4_where 28 = .ok (.bipush (-102), 2) := by decide +kernel
theorem dX4_where_30 : decode cX4_where 30 = .ok (.ireturn, 1) := by decide +kernel
theorem dX4_where_31 : decode cX4_where 31 = .ok (.aload_n 0, 1) := by decide +kernel
theorem dX4_where_32 : decode cX4_where 32 = .ok (.getfield 19, 3) := by decide +kernel
theorem dX4_where_35 : decode cX4_where 35 = .ok (.iload_n 1, 1) := by decide +kernel
theorem dX4_where_36 : decode cX4_where 36 = .ok (.iload_n 2, 1) := by decide +kernel
theorem dX4_where_37 : decode cX4_where 37 = .ok (.invokevirtual 157, 3) := by decide +kernel
theorem dX4_where_40 : decode cX4_where 40 = .ok (.istore 4, 2) := by decide +kernel
theorem dX4_where_42 : decode cX4_where 42 = .ok (.iload_n 3, 1) := by decide +kernel
theorem dX4_where_43 : decode cX4_where 43 = .ok (.ifCond .ne 8, 3) := by decide +kernel
theorem dX4_where_46 : decode cX4_where 46 = .ok (.iload 4, 2) := by decide +kernel
theorem dX4_where_48 : decode cX4_where 48 = .ok (.goto 14, 3) := by decide +kernel
theorem dX4_where_51 : decode cX4_where 51 = .ok (.aload_n 0, 1) := by decide +kernel
theorem dX4_where_52 : decode cX4_where 52 = .ok (.getfield 19, 3) := by decide +kernel
theorem dX4_where_55 : decode cX4_where 55 = .ok (.iload_n 1, 1) := by decide +kernel
theorem dX4_where_56 : decode cX4_where 56 = .ok (.iload_n 2, 1) := by decide +kernel
theorem dX4_where_57 : decode cX4_where 57 = .ok (.iload 4, 2) := by decide +kernel
theorem dX4_where_59 : decode cX4_where 59 = .ok (.invokevirtual 160, 3) := by decide +kernel
theorem dX4_where_62 : decode cX4_where 62 = .ok (.ireturn, 1) := by decide +kernel
theorem dX4_pack_0 : decode cX4_pack 0 = .ok (.iload_n 1, 1) := by decide +kernel
theorem dX4_pack_1 : decode cX4_pack 1 = .ok (.iconst 1, 1) := by decide +kernel
theorem dX4_pack_2 : decode cX4_pack 2 = .ok (.if_icmp .lt 16, 3) := by decide +kernel
theorem dX4_pack_5 : decode cX4_pack 5 = .ok (.iload_n 1, 1) := by decide +kernel
theorem dX4_pack_6 : decode cX4_pack 6 = .ok (.bipush 20, 2) := by decide +kernel
theorem dX4_pack_8 : decode cX4_pack 8 = .ok (.if_icmp .gt 10, 3) := by decide +kernel
theorem dX4_pack_11 : decode cX4_pack 11 = .ok (.iload_n 2, 1) := by decide +kernel
theorem dX4_pack_12 : decode cX4_pack 12 = .ok (.invokestatic 163, 3) := by decide +kernel
theorem dX4_pack_15 : decode cX4_pack 15 = .ok (.ifCond .ne 6, 3) := by decide +kernel
theorem dX4_pack_18 : decode cX4_pack 18 = .ok (.bipush (-102), 2) := by decide +kernel
theorem dX4_pack_20 : decode cX4_pack 20 = .ok (.ireturn, 1) := by decide +kernel
theorem dX4_pack_21 : decode cX4_pack 21 = .ok (.aload_n 0, 1) := by decide +kernel
theorem dX4_pack_22 : decode cX4_pack 22 = .ok (.invokevirtual 143, 3) := by decide +kernel
theorem dX4_pack_25 : decode cX4_pack 25 = .ok (.ifCond .eq 12, 3) := by decide +kernel
theorem dX4_pack_28 : decode cX4_pack 28 = .ok (.aload_n 0, 1) := by decide +kernel
theorem dX4_pack_29 : decode cX4_pack 29 = .ok (.getfield 54, 3) := by decide +kernel
theorem dX4_pack_32 : decode cX4_pack 32 = .ok (.bipush 20, 2) := by decide +kernel
theorem dX4_pack_34 : decode cX4_pack 34 = .ok (.if_icmp .lt 6, 3) := by decide +kernel
theorem dX4_pack_37 : decode cX4_pack 37 = .ok (.bipush (-103), 2) := by decide +kernel
theorem dX4_pack_39 : decode cX4_pack 39 = .ok (.ireturn, 1) := by decide +kernel
theorem dX4_pack_40 : decode cX4_pack 40 = .ok (.aload_n 0, 1) := by decide +kernel
theorem dX4_pack_41 : decode cX4_pack 41 = .ok (.dup, 1) := by decide +kernel
theorem dX4_pack_42 : decode cX4_pack 42 = .ok (.getfield 54, 3) := by decide +kernel
theorem dX4_pack_45 : decode cX4_pack 45 = .ok (.iconst 1, 1) := by decide +kernel
theorem dX4_pack_46 : decode cX4_pack 46 = .ok (.iadd, 1) := by decide +kernel
theorem dX4_pack_47 : decode cX4_pack 47 = .ok (.putfield 54, 3) := by decide +kernel
theorem dX4_pack_50 : decode cX4_pack 50 = .ok (.aload_n 0, 1) := by decide +kernel
theorem dX4_pack_51 : decode cX4_pack 51 = .ok (.getfield 42, 3) := by decide +kernel
theorem dX4_pack_54 : decode cX4_pack 54 = .ok (.aload_n 0, 1) := by decide +kernel
theorem dX4_pack_55 : decode cX4_pack 55 = .ok (.getfield 19, 3) := by decide +kernel
theorem dX4_pack_58 : decode cX4_pack 58 = .ok (.iload_n 1, 1) := by decide +kernel
theorem dX4_pack_59 : decode cX4_pack 59 = .ok (.invokevirtual 166, 3) := by decide +kernel
theorem dX4_pack_62 : decode cX4_pack 62 = .ok (.iload_n 2, 1) := by decide +kernel
theorem dX4_pack_63 : decode cX4_pack 63 = .ok (.lookupswitch 41 #[(0, 25), (1, 33)], 25) := by decide +kernel
theorem dX4_pack_88 : decode cX4_pack 88 = .ok (.aload_n 0, 1) := by decide +kernel
theorem dX4_pack_89 : decode cX4_pack 89 = .ok (.getfield 42, 3) := by decide +kernel
theorem dX4_pack_92 : decode cX4_pack 92 = .ok (.getfield 170, 3) := by decide +kernel
theorem dX4_pack_95 : decode cX4_pack 95 = .ok (.ireturn, 1) := by decide +kernel
theorem dX4_pack_96 : decode cX4_pack 96 = .ok (.aload_n 0, 1) := by decide +kernel
theorem dX4_pack_97 : decode cX4_pack 97 = .ok (.getfield 42, 3) := by decide +kernel
theorem dX4_pack_100 : decode cX4_pack 100 = .ok (.getfield 173, 3) := by decide +kernel
theorem dX4_pack_103 : decode cX4_pack 103 = .ok (.ireturn, 1) := by decide +kernel
theorem dX4_pack_104 : decode cX4_pack 104 = .ok (.aload_n 0, 1) := by decide +kernel
theorem dX4_pack_105 : decode cX4_pack 105 = .ok (.getfield 42, 3) := by decide +kernel
theorem dX4_pack_108 : decode cX4_pack 108 = .ok (.getfield 176, 3) := by decide +kernel
theorem dX4_pack_111 : decode cX4_pack 111 = .ok (.iload_n 2, 1) := by decide +kernel
theorem dX4_pack_112 : decode cX4_pack 112 = .ok (.bipush 10, 2) := by decide +kernel
theorem dX4_pack_114 : decode cX4_pack 114 = .ok (.isub, 1) := by decide +kernel
theorem dX4_pack_115 : decode cX4_pack 115 = .ok (.iaload, 1) := by decide +kernel
theorem dX4_pack_116 : decode cX4_pack 116 = .ok (.ireturn, 1) := by decide +kernel
theorem dX4_mend_0 : decode cX4_mend 0 = .ok (.aload_n 0, 1) := by decide +kernel
theorem dX4_mend_1 : decode cX4_mend 1 = .ok (.invokevirtual 143, 3) := by decide +kernel
theorem dX4_mend_4 : decode cX4_mend 4 = .ok (.ifCond .eq 13, 3) := by decide +kernel
theorem dX4_mend_7 : decode cX4_mend 7 = .ok (.aload_n 0, 1) := by decide +kernel
theorem dX4_mend_8 : decode cX4_mend 8 = .ok (.getfield 19, 3) := by decide +kernel
theorem dX4_mend_11 : decode cX4_mend 11 = .ok (.invokevirtual 179, 3) := by decide +kernel
theorem dX4_mend_14 : decode cX4_mend 14 = .ok (.goto 5, 3) := by decide +kernel
theorem dX4_mend_17 : decode cX4_mend 17 = .ok (.bipush (-103), 2) := by decide +kernel
theorem dX4_mend_19 : decode cX4_mend 19 = .ok (.ireturn, 1) := by decide +kernel
theorem dX4_odds_0 : decode cX4_odds 0 = .ok (.iload_n 1, 1) := by decide +kernel
theorem dX4_odds_1 : decode cX4_odds 1 = .ok (.iconst 1, 1) := by decide +kernel
theorem dX4_odds_2 : decode cX4_odds 2 = .ok (.if_icmp .lt 17, 3) := by decide +kernel
theorem dX4_odds_5 : decode cX4_odds 5 = .ok (.iload_n 1, 1) := by decide +kernel
theorem dX4_odds_6 : decode cX4_odds 6 = .ok (.iconst 4, 1) := by decide +kernel
theorem dX4_odds_7 : decode cX4_odds 7 = .ok (.if_icmp .gt 12, 3) := by decide +kernel
theorem dX4_odds_10 : decode cX4_odds 10 = .ok (.iload_n 2, 1) := by decide +kernel
theorem dX4_odds_11 : decode cX4_odds 11 = .ok (.ifCond .lt 8, 3) := by decide +kernel
theorem dX4_odds_14 : decode cX4_odds 14 = .ok (.iload_n 2, 1) := by decide +kernel
theorem dX4_odds_15 : decode cX4_odds 15 = .ok (.iconst 1, 1) := by decide +kernel
theorem dX4_odds_16 : decode cX4_odds 16 = .ok (.if_icmp .le 6, 3) := by decide +kernel
theorem dX4_odds_19 : decode cX4_odds 19 = .ok (.bipush (-102), 2) := by decide +kernel
theorem dX4_odds_21 : decode cX4_odds 21 = .ok (.ireturn, 1) := by decide +kernel
theorem dX4_odds_22 : decode cX4_odds 22 = .ok (.aload_n 0, 1) := by decide +kernel
theorem dX4_odds_23 : decode cX4_odds 23 = .ok (.invokevirtual 143, 3) := by decide +kernel
theorem dX4_odds_26 : decode cX4_odds 26 = .ok (.ifCond .ne 6, 3) := by decide +kernel
theorem dX4_odds_29 : decode cX4_odds 29 = .ok (.bipush (-103), 2) := by decide +kernel
theorem dX4_odds_31 : decode cX4_odds 31 = .ok (.ireturn, 1) := by decide +kernel
theorem dX4_odds_32 : decode cX4_odds 32 = .ok (.aload_n 0, 1) := by decide +kernel
theorem dX4_odds_33 : decode cX4_odds 33 = .ok (.getfield 19, 3) := by decide +kernel
theorem dX4_odds_36 : decode cX4_odds 36 = .ok (.invokevirtual 182, 3) := by decide +kernel
theorem dX4_odds_39 : decode cX4_odds 39 = .ok (.istore_n 3, 1) := by decide +kernel
theorem dX4_odds_40 : decode cX4_odds 40 = .ok (.iload_n 2, 1) := by decide +kernel
theorem dX4_odds_41 : decode cX4_odds 41 = .ok (.ifCond .ne 12, 3) := by decide +kernel
theorem dX4_odds_44 : decode cX4_odds 44 = .ok (.iload_n 3, 1) := by decide +kernel
theorem dX4_odds_45 : decode cX4_odds 45 = .ok (.bipush 20, 2) := by decide +kernel
theorem dX4_odds_47 : decode cX4_odds 47 = .ok (.invokestatic 185, 3) := by decide +kernel
theorem dX4_odds_50 : decode cX4_odds 50 = .ok (.goto 9, 3) := by decide +kernel
theorem dX4_odds_53 : decode cX4_odds 53 = .ok (.bipush 20, 2) := by decide +kernel
theorem dX4_odds_55 : decode cX4_odds 55 = .ok (.iload_n 3, 1) := by decide +kernel
theorem dX4_odds_56 : decode cX4_odds 56 = .ok (.invokestatic 185, 3) := by decide +kernel
theorem dX4_odds_59 : decode cX4_odds 59 = .ok (.istore 4, 2) := by decide +kernel
theorem dX4_odds_61 : decode cX4_odds 61 = .ok (.iconst 1, 1) := by decide +kernel
theorem dX4_odds_62 : decode cX4_odds 62 = .ok (.istore 5, 2) := by decide +kernel
theorem dX4_odds_64 : decode cX4_odds 64 = .ok (.iconst 0, 1) := by decide +kernel
theorem dX4_odds_65 : decode cX4_odds 65 = .ok (.istore 6, 2) := by decide +kernel
theorem dX4_odds_67 : decode cX4_odds 67 = .ok (.iload 6, 2) := by decide +kernel
theorem dX4_odds_69 : decode cX4_odds 69 = .ok (.iload_n 1, 1) := by decide +kernel
theorem dX4_odds_70 : decode cX4_odds 70 = .ok (.if_icmp .ge 16, 3) := by decide +kernel
theorem dX4_odds_73 : decode cX4_odds 73 = .ok (.iload 5, 2) := by decide +kernel
theorem dX4_odds_75 : decode cX4_odds 75 = .ok (.iload 4, 2) := by decide +kernel
theorem dX4_odds_77 : decode cX4_odds 77 = .ok (.imul, 1) := by decide +kernel
theorem dX4_odds_78 : decode cX4_odds 78 = .ok (.istore 5, 2) := by decide +kernel
theorem dX4_odds_80 : decode cX4_odds 80 = .ok (.iinc 6 1, 3) := by decide +kernel
theorem dX4_odds_83 : decode cX4_odds 83 = .ok (.goto (-16), 3) := by decide +kernel
theorem dX4_odds_86 : decode cX4_odds 86 = .ok (.iload 5, 2) := by decide +kernel
theorem dX4_odds_88 : decode cX4_odds 88 = .ok (.ireturn, 1) := by decide +kernel
theorem dX4_see_0 : decode cX4_see 0 = .ok (.aload_n 0, 1) := by decide +kernel
theorem dX4_see_1 : decode cX4_see 1 = .ok (.iload_n 1, 1) := by decide +kernel
theorem dX4_see_2 : decode cX4_see 2 = .ok (.invokevirtual 80, 3) := by decide +kernel
theorem dX4_see_5 : decode cX4_see 5 = .ok (.ifCond .ne 6, 3) := by decide +kernel
theorem dX4_see_8 : decode cX4_see 8 = .ok (.bipush (-101), 2) := by decide +kernel
theorem dX4_see_10 : decode cX4_see 10 = .ok (.ireturn, 1) := by decide +kernel
theorem dX4_see_11 : decode cX4_see 11 = .ok (.iload_n 2, 1) := by decide +kernel
theorem dX4_see_12 : decode cX4_see 12 = .ok (.iload_n 3, 1) := by decide +kernel
theorem dX4_see_13 : decode cX4_see 13 = .ok (.invokestatic 137, 3) := by decide +kernel
theorem dX4_see_16 : decode cX4_see 16 = .ok (.ifCond .ne 6, 3) := by decide +kernel
theorem dX4_see_19 : decode cX4_see 19 = .ok (.bipush (-102), 2) := by decide +kernel
theorem dX4_see_21 : decode cX4_see 21 = .ok (.ireturn, 1) := by decide +kernel
theorem dX4_see_22 : decode cX4_see 22 = .ok (.aload_n 0, 1) := by decide +kernel
theorem dX4_see_23 : decode cX4_see 23 = .ok (.getfield 26, 3) := by decide +kernel
theorem dX4_see_26 : decode cX4_see 26 = .ok (.getfield 76, 3) := by decide +kernel
theorem dX4_see_29 : decode cX4_see 29 = .ok (.bipush 8, 2) := by decide +kernel
theorem dX4_see_31 : decode cX4_see 31 = .ok (.if_icmp .lt 6, 3) := by decide +kernel
theorem dX4_see_34 : decode cX4_see 34 = .ok (.bipush (-104), 2) := by decide +kernel
theorem dX4_see_36 : decode cX4_see 36 = .ok (.ireturn, 1) := by decide +kernel
theorem dX4_see_37 : decode cX4_see 37 = .ok (.aload_n 0, 1) := by decide +kernel
theorem dX4_see_38 : decode cX4_see 38 = .ok (.getfield 26, 3) := by decide +kernel
theorem dX4_see_41 : decode cX4_see 41 = .ok (.iload_n 1, 1) := by decide +kernel
theorem dX4_see_42 : decode cX4_see 42 = .ok (.iload_n 2, 1) := by decide +kernel
theorem dX4_see_43 : decode cX4_see 43 = .ok (.iload_n 3, 1) := by decide +kernel
theorem dX4_see_44 : decode cX4_see 44 = .ok (.iload 4, 2) := by decide +kernel
theorem dX4_see_46 : decode cX4_see 46 = .ok (.invokevirtual 188, 3) := by decide +kernel
theorem dX4_see_49 : decode cX4_see 49 = .ok (.aload_n 0, 1) := by decide +kernel
theorem dX4_see_50 : decode cX4_see 50 = .ok (.getfield 26, 3) := by decide +kernel
theorem dX4_see_53 : decode cX4_see 53 = .ok (.getfield 76, 3) := by decide +kernel
theorem dX4_see_56 : decode cX4_see 56 = .ok (.ireturn, 1) := by decide +kernel
theorem dX4_forget_0 : decode cX4_forget 0 = .ok (.aload_n 0, 1) := by decide +kernel
theorem dX4_forget_1 : decode cX4_forget 1 = .ok (.getfield 26, 3) := by decide +kernel
theorem dX4_forget_4 : decode cX4_forget 4 = .ok (.getfield 76, 3) := by decide +kernel
theorem dX4_forget_7 : decode cX4_forget 7 = .ok (.istore_n 1, 1) := by decide +kernel
theorem dX4_forget_8 : decode cX4_forget 8 = .ok (.aload_n 0, 1) := by decide +kernel
theorem dX4_forget_9 : decode cX4_forget 9 = .ok (.getfield 26, 3) := by decide +kernel
theorem dX4_forget_12 : decode cX4_forget 12 = .ok (.iconst 0, 1) := by decide +kernel
theorem dX4_forget_13 : decode cX4_forget 13 = .ok (.putfield 76, 3) := by decide +kernel
theorem dX4_forget_16 : decode cX4_forget 16 = .ok (.iload_n 1, 1) := by decide +kernel
theorem dX4_forget_17 : decode cX4_forget 17 = .ok (.ireturn, 1) := by decide +kernel
theorem dX4_decades_0 : decode cX4_decades 0 = .ok (.iload_n 1, 1) := by decide +kernel
theorem dX4_decades_1 : decode cX4_decades 1 = .ok (.iconst 1, 1) := by decide +kernel
theorem dX4_decades_2 : decode cX4_decades 2 = .ok (.if_icmp .lt 22, 3) := by decide +kernel
theorem dX4_decades_5 : decode cX4_decades 5 = .ok (.iload_n 1, 1) := by decide +kernel
theorem dX4_decades_6 : decode cX4_decades 6 = .ok (.bipush 60, 2) := by decide +kernel
theorem dX4_decades_8 : decode cX4_decades 8 = .ok (.if_icmp .gt 16, 3) := by decide +kernel
theorem dX4_decades_11 : decode cX4_decades 11 = .ok (.iload_n 2, 1) := by decide +kernel
theorem dX4_decades_12 : decode cX4_decades 12 = .ok (.ifCond .lt 12, 3) := by decide +kernel
theorem dX4_decades_15 : decode cX4_decades 15 = .ok (.iload_n 3, 1) := by decide +kernel
theorem dX4_decades_16 : decode cX4_decades 16 = .ok (.ifCond .lt 8, 3) := by decide +kernel
theorem dX4_decades_19 : decode cX4_decades 19 = .ok (.iload_n 3, 1) := by decide +kernel
theorem dX4_decades_20 : decode cX4_decades 20 = .ok (.iconst 2, 1) := by decide +kernel
theorem dX4_decades_21 : decode cX4_decades 21 = .ok (.if_icmp .le 6, 3) := by decide +kernel
theorem dX4_decades_24 : decode cX4_decades 24 = .ok (.bipush (-102), 2) := by decide +kernel
theorem dX4_decades_26 : decode cX4_decades 26 = .ok (.ireturn, 1) := by decide +kernel
theorem dX4_decades_27 : decode cX4_decades 27 = .ok (.aload_n 0, 1) := by decide +kernel
theorem dX4_decades_28 : decode cX4_decades 28 = .ok (.invokevirtual 143, 3) := by decide +kernel
theorem dX4_decades_31 : decode cX4_decades 31 = .ok (.ifCond .ne 6, 3) := by decide +kernel
theorem dX4_decades_34 : decode cX4_decades 34 = .ok (.bipush (-103), 2) := by decide +kernel
theorem dX4_decades_36 : decode cX4_decades 36 = .ok (.ireturn, 1) := by decide +kernel
theorem dX4_decades_37 : decode cX4_decades 37 = .ok (.aload_n 0, 1) := by decide +kernel
theorem dX4_decades_38 : decode cX4_decades 38 = .ok (.getfield 36, 3) := by decide +kernel
theorem dX4_decades_41 : decode cX4_decades 41 = .ok (.aload_n 0, 1) := by decide +kernel
theorem dX4_decades_42 : decode cX4_decades 42 = .ok (.getfield 19, 3) := by decide +kernel
theorem dX4_decades_45 : decode cX4_decades 45 = .ok (.invokevirtual 191, 3) := by decide +kernel
theorem dX4_decades_48 : decode cX4_decades 48 = .ok (.iconst 0, 1) := by decide +kernel
theorem dX4_decades_49 : decode cX4_decades 49 = .ok (.istore 4, 2) := by decide +kernel
theorem dX4_decades_51 : decode cX4_decades 51 = .ok (.iload_n 2, 1) := by decide +kernel
theorem dX4_decades_52 : decode cX4_decades 52 = .ok (.istore 5, 2) := by decide +kernel
theorem dX4_decades_54 : decode cX4_decades 54 = .ok (.iconst 0, 1) := by decide +kernel
theorem dX4_decades_55 : decode cX4_decades 55 = .ok (.istore 6, 2) := by decide +kernel
theorem dX4_decades_57 : decode cX4_decades 57 = .ok (.iload 6, 2) := by decide +kernel
theorem dX4_decades_59 : decode cX4_decades 59 = .ok (.iload_n 1, 1) := by decide +kernel
theorem dX4_decades_60 : decode cX4_decades 60 = .ok (.if_icmp .ge 52, 3) := by decide +kernel
theorem dX4_decades_63 : decode cX4_decades 63 = .ok (.iload 5, 2) := by decide +kernel
theorem dX4_decades_65 : decode cX4_decades 65 = .ok (.invokestatic 194, 3) := by decide +kernel
theorem dX4_decades_68 : decode cX4_decades 68 = .ok (.istore 5, 2) := by decide +kernel
theorem dX4_decades_70 : decode cX4_decades 70 = .ok (.iload 5, 2) := by decide +kernel
theorem dX4_decades_72 : decode cX4_decades 72 = .ok (.iconst 2, 1) := by decide +kernel
theorem dX4_decades_73 : decode cX4_decades 73 = .ok (.invokestatic 197, 3) := by decide +kernel
theorem dX4_decades_76 : decode cX4_decades 76 = .ok (.istore 7, 2) := by decide +kernel
theorem dX4_decades_78 : decode cX4_decades 78 = .ok (.iload 5, 2) := by decide +kernel
theorem dX4_decades_80 : decode cX4_decades 80 = .ok (.invokestatic 194, 3) := by decide +kernel
theorem dX4_decades_83 : decode cX4_decades 83 = .ok (.istore 5, 2) := by decide +kernel
theorem dX4_decades_85 : decode cX4_decades 85 = .ok (.iload 4, 2) := by decide +kernel
theorem dX4_decades_87 : decode cX4_decades 87 = .ok (.aload_n 0, 1) := by decide +kernel
theorem dX4_decades_88 : decode cX4_decades 88 = .ok (.getfield 36, 3) := by decide +kernel
theorem dX4_decades_91 : decode cX4_decades 91 = .ok (.iload 7, 2) := by decide +kernel
theorem dX4_decades_93 : decode cX4_decades 93 = .ok (.iload 5, 2) := by decide +kernel
theorem dX4_decades_95 : decode cX4_decades 95 = .ok (.bipush 10, 2) := by decide +kernel
theorem dX4_decades_97 : decode cX4_decades 97 = .ok (.invokestatic 197, 3) := by decide +kernel
theorem dX4_decades_100 : decode cX4_decades 100 = .ok (.invokevirtual 149, 3) := by decide +kernel
theorem dX4_decades_103 : decode cX4_decades 103 = .ok (.iadd, 1) := by decide +kernel
theorem dX4_decades_104 : decode cX4_decades 104 = .ok (.istore 4, 2) := by decide +kernel
theorem dX4_decades_106 : decode cX4_decades 106 = .ok (.iinc 6 1, 3) := by decide +kernel
theorem dX4_decades_109 : decode cX4_decades 109 = .ok (.goto (-52), 3) := by decide +kernel
theorem dX4_decades_112 : decode cX4_decades 112 = .ok (.iload_n 3, 1) := by decide +kernel
theorem dX4_decades_113 : decode cX4_decades 113 = .ok (.lookupswitch 38 #[(0, 27), (1, 30)], 27) := by decide +kernel
