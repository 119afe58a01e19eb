theorem dX4_decades_140 : decode cX4_decades 140 = .ok (.iload 4, 2) := by decide +kernel
theorem dX4_decades_142 : decode cX4_decades 142 = .ok (.ireturn, 1) := by decide +kernel
theorem dX4_decades_143 : decode cX4_decades 143 = .ok (.aload_n 0, 1) := by decide +kernel
theorem dX4_decades_144 : decode cX4_decades 144 = .ok (.getfield 36, 3) := by decide +kernel
theorem dX4_decades_147 : decode cX4_decades 147 = .ok (.invokevirtual 200, 3) := by decide +kernel
theorem dX4_decades_150 : decode cX4_decades 150 = .ok (.ireturn, 1) := by decide +kernel
theorem dX4_decades_151 : decode cX4_decades 151 = .ok (.iload 5, 2) := by decide +kernel
theorem dX4_decades_153 : decode cX4_decades 153 = .ok (.ireturn, 1) := by decide +kernel
theorem dX4_image_0 : decode cX4_image 0 = .ok (.aload_n 0, 1) := by decide +kernel
theorem dX4_image_1 : decode cX4_image 1 = .ok (.invokevirtual 143, 3) := by decide +kernel
theorem dX4_image_4 : decode cX4_image 4 = .ok (.ifCond .ne 6, 3) := by decide +kernel
theorem dX4_image_7 : decode cX4_image 7 = .ok (.bipush (-103), 2) := by decide +kernel
theorem dX4_image_9 : decode cX4_image 9 = .ok (.ireturn, 1) := by decide +kernel
theorem dX4_image_10 : decode cX4_image 10 = .ok (.aload_n 0, 1) := by decide +kernel
theorem dX4_image_11 : decode cX4_image 11 = .ok (.getfield 30, 3) := by decide +kernel
theorem dX4_image_14 : decode cX4_image 14 = .ok (.aload_n 0, 1) := by decide +kernel
theorem dX4_image_15 : decode cX4_image 15 = .ok (.getfield 19, 3) := by decide +kernel
theorem dX4_image_18 : decode cX4_image 18 = .ok (.invokevirtual 191, 3) := by decide +kernel
theorem dX4_image_21 : decode cX4_image 21 = .ok (.aload_n 0, 1) := by decide +kernel
theorem dX4_image_22 : decode cX4_image 22 = .ok (.getfield 33, 3) := by decide +kernel
theorem dX4_image_25 : decode cX4_image 25 = .ok (.aload_n 0, 1) := by decide +kernel
theorem dX4_image_26 : decode cX4_image 26 = .ok (.getfield 26, 3) := by decide +kernel
theorem dX4_image_29 : decode cX4_image 29 = .ok (.invokevirtual 203, 3) := by decide +kernel
theorem dX4_image_32 : decode cX4_image 32 = .ok (.aload_n 0, 1) := by decide +kernel
theorem dX4_image_33 : decode cX4_image 33 = .ok (.iconst 1, 1) := by decide +kernel
theorem dX4_image_34 : decode cX4_image 34 = .ok (.putfield 46, 3) := by decide +kernel
theorem dX4_image_37 : decode cX4_image 37 = .ok (.aload_n 0, 1) := by decide +kernel
theorem dX4_image_38 : decode cX4_image 38 = .ok (.getfield 19, 3) := by decide +kernel
theorem dX4_image_41 : decode cX4_image 41 = .ok (.getfield 146, 3) := by decide +kernel
theorem dX4_image_44 : decode cX4_image 44 = .ok (.ireturn, 1) := by decide +kernel
theorem dX4_restore_0 : decode cX4_restore 0 = .ok (.aload_n 0, 1) := by decide +kernel
theorem dX4_restore_1 : decode cX4_restore 1 = .ok (.getfield 46, 3) := by decide +kernel
theorem dX4_restore_4 : decode cX4_restore 4 = .ok (.ifCond .ne 6, 3) := by decide +kernel
theorem dX4_restore_7 : decode cX4_restore 7 = .ok (.bipush (-103), 2) := by decide +kernel
theorem dX4_restore_9 : decode cX4_restore 9 = .ok (.ireturn, 1) := by decide +kernel
theorem dX4_restore_10 : decode cX4_restore 10 = .ok (.aload_n 0, 1) := by decide +kernel
theorem dX4_restore_11 : decode cX4_restore 11 = .ok (.getfield 19, 3) := by decide +kernel
theorem dX4_restore_14 : decode cX4_restore 14 = .ok (.aload_n 0, 1) := by decide +kernel
theorem dX4_restore_15 : decode cX4_restore 15 = .ok (.getfield 30, 3) := by decide +kernel
theorem dX4_restore_18 : decode cX4_restore 18 = .ok (.invokevirtual 191, 3) := by decide +kernel
theorem dX4_restore_21 : decode cX4_restore 21 = .ok (.aload_n 0, 1) := by decide +kernel
theorem dX4_restore_22 : decode cX4_restore 22 = .ok (.getfield 26, 3) := by decide +kernel
theorem dX4_restore_25 : decode cX4_restore 25 = .ok (.aload_n 0, 1) := by decide +kernel
theorem dX4_restore_26 : decode cX4_restore 26 = .ok (.getfield 33, 3) := by decide +kernel
theorem dX4_restore_29 : decode cX4_restore 29 = .ok (.invokevirtual 203, 3) := by decide +kernel
theorem dX4_restore_32 : decode cX4_restore 32 = .ok (.aload_n 0, 1) := by decide +kernel
theorem dX4_restore_33 : decode cX4_restore 33 = .ok (.getfield 19, 3) := by decide +kernel
theorem dX4_restore_36 : decode cX4_restore 36 = .ok (.getfield 146, 3) := by decide +kernel
theorem dX4_restore_39 : decode cX4_restore 39 = .ok (.ireturn, 1) := by decide +kernel
theorem dX4_count_0 : decode cX4_count 0 = .ok (.iload_n 1, 1) := by decide +kernel
theorem dX4_count_1 : decode cX4_count 1 = .ok (.tableswitch 164 0 11 #[63, 71, 79, 87, 95, 114, 122, 130, 138, 146, 154, 159], 63) := by decide +kernel
theorem dX4_count_64 : decode cX4_count 64 = .ok (.aload_n 0, 1) := by decide +kernel
theorem dX4_count_65 : decode cX4_count 65 = .ok (.getfield 19, 3) := by decide +kernel
theorem dX4_count_68 : decode cX4_count 68 = .ok (.getfield 77, 3) := by decide +kernel
theorem dX4_count_71 : decode cX4_count 71 = .ok (.ireturn, 1) := by decide +kernel
theorem dX4_count_72 : decode cX4_count 72 = .ok (.aload_n 0, 1) := by decide +kernel
theorem dX4_count_73 : decode cX4_count 73 = .ok (.getfield 19, 3) := by decide +kernel
theorem dX4_count_76 : decode cX4_count 76 = .ok (.getfield 206, 3) := by decide +kernel
theorem dX4_count_79 : decode cX4_count 79 = .ok (.ireturn, 1) := by decide +kernel
theorem dX4_count_80 : decode cX4_count 80 = .ok (.aload_n 0, 1) := by decide +kernel
theorem dX4_count_81 : decode cX4_count 81 = .ok (.getfield 19, 3) := by decide +kernel
theorem dX4_count_84 : decode cX4_count 84 = .ok (.invokevirtual 200, 3) := by decide +kernel
theorem dX4_count_87 : decode cX4_count 87 = .ok (.ireturn, 1) := by decide +kernel
theorem dX4_count_88 : decode cX4_count 88 = .ok (.aload_n 0, 1) := by decide +kernel
theorem dX4_count_89 : decode cX4_count 89 = .ok (.getfield 19, 3) := by decide +kernel
theorem dX4_count_92 : decode cX4_count 92 = .ok (.invokevirtual 209, 3) := by decide +kernel
theorem dX4_count_95 : decode cX4_count 95 = .ok (.ireturn, 1) := by decide +kernel
theorem dX4_count_96 : decode cX4_count 96 = .ok (.aload_n 0, 1) := by decide +kernel
theorem dX4_count_97 : decode cX4_count 97 = .ok (.invokevirtual 143, 3) := by decide +kernel
theorem dX4_count_100 : decode cX4_count 100 = .ok (.ifCond .eq 13, 3) := by decide +kernel
theorem dX4_count_103 : decode cX4_count 103 = .ok (.aload_n 0, 1) := by decide +kernel
theorem dX4_count_104 : decode cX4_count 104 = .ok (.getfield 19, 3) := by decide +kernel
theorem dX4_count_107 : decode cX4_count 107 = .ok (.invokevirtual 212, 3) := by decide +kernel
theorem dX4_count_110 : decode cX4_count 110 = .ok (.goto 4, 3) := by decide +kernel
theorem dX4_count_113 : decode cX4_count 113 = .ok (.iconst 0, 1) := by decide +kernel
theorem dX4_count_114 : decode cX4_count 114 = .ok (.ireturn, 1) := by decide +kernel
theorem dX4_count_115 : decode cX4_count 115 = .ok (.aload_n 0, 1) := by decide +kernel
theorem dX4_count_116 : decode cX4_count 116 = .ok (.getfield 19, 3) := by decide +kernel
theorem dX4_count_119 : decode cX4_count 119 = .ok (.getfield 146, 3) := by decide +kernel
theorem dX4_count_122 : decode cX4_count 122 = .ok (.ireturn, 1) := by decide +kernel
theorem dX4_count_123 : decode cX4_count 123 = .ok (.aload_n 0, 1) := by decide +kernel
theorem dX4_count_124 : decode cX4_count 124 = .ok (.getfield 19, 3) := by decide +kernel
theorem dX4_count_127 : decode cX4_count 127 = .ok (.getfield 215, 3) := by decide +kernel
theorem dX4_count_130 : decode cX4_count 130 = .ok (.ireturn, 1) := by decide +kernel
theorem dX4_count_131 : decode cX4_count 131 = .ok (.aload_n 0, 1) := by decide +kernel
theorem dX4_count_132 : decode cX4_count 132 = .ok (.getfield 19, 3) := by decide +kernel
theorem dX4_count_135 : decode cX4_count 135 = .ok (.getfield 218, 3) := by decide +kernel
theorem dX4_count_138 : decode cX4_count 138 = .ok (.ireturn, 1) := by decide +kernel
theorem dX4_count_139 : decode cX4_count 139 = .ok (.aload_n 0, 1) := by decide +kernel
theorem dX4_count_140 : decode cX4_count 140 = .ok (.getfield 26, 3) := by decide +kernel
theorem dX4_count_143 : decode cX4_count 143 = .ok (.getfield 76, 3) := by decide +kernel
theorem dX4_count_146 : decode cX4_count 146 = .ok (.ireturn, 1) := by decide +kernel
theorem dX4_count_147 : decode cX4_count 147 = .ok (.aload_n 0, 1) := by decide +kernel
theorem dX4_count_148 : decode cX4_count 148 = .ok (.getfield 12, 3) := by decide +kernel
theorem dX4_count_151 : decode cX4_count 151 = .ok (.getfield 57, 3) := by decide +kernel
theorem dX4_count_154 : decode cX4_count 154 = .ok (.ireturn, 1) := by decide +kernel
theorem dX4_count_155 : decode cX4_count 155 = .ok (.aload_n 0, 1) := by decide +kernel
theorem dX4_count_156 : decode cX4_count 156 = .ok (.getfield 50, 3) := by decide +kernel
theorem dX4_count_159 : decode cX4_count 159 = .ok (.ireturn, 1) := by decide +kernel
theorem dX4_count_160 : decode cX4_count 160 = .ok (.aload_n 0, 1) := by decide +kernel
theorem dX4_count_161 : decode cX4_count 161 = .ok (.getfield 54, 3) := by decide +kernel
theorem dX4_count_164 : decode cX4_count 164 = .ok (.ireturn, 1) := by decide +kernel
theorem dX4_count_165 : decode cX4_count 165 = .ok (.bipush (-102), 2) := by decide +kernel
theorem dX4_count_167 : decode cX4_count 167 = .ok (.ireturn, 1) := by decide +kernel
theorem dX4_digest_0 : decode cX4_digest 0 = .ok (.ldc2_w 221, 3) := by decide +kernel
theorem dX4_digest_3 : decode cX4_digest 3 = .ok (.lstore_n 1, 1) := by decide +kernel
theorem dX4_digest_4 : decode cX4_digest 4 = .ok (.iconst 0, 1) := by decide +kernel
theorem dX4_digest_5 : decode cX4_digest 5 = .ok (.istore_n 3, 1) := by decide +kernel
theorem dX4_digest_6 : decode cX4_digest 6 = .ok (.iload_n 3, 1) := by decide +kernel
theorem dX4_digest_7 : decode cX4_digest 7 = .ok (.aload_n 0, 1) := by decide +kernel
theorem dX4_digest_8 : decode cX4_digest 8 = .ok (.getfield 19, 3) := by decide +kernel
theorem dX4_digest_11 : decode cX4_digest 11 = .ok (.getfield 206, 3) := by decide +kernel
theorem dX4_digest_14 : decode cX4_digest 14 = .ok (.if_icmp .ge 38, 3) := by decide +kernel
theorem dX4_digest_17 : decode cX4_digest 17 = .ok (.iconst 0, 1) := by decide +kernel
theorem dX4_digest_18 : decode cX4_digest 18 = .ok (.istore 4, 2) := by decide +kernel
theorem dX4_digest_20 : decode cX4_digest 20 = .ok (.iload 4, 2) := by decide +kernel
theorem dX4_digest_22 : decode cX4_digest 22 = .ok (.bipush 7, 2) := by decide +kernel
theorem dX4_digest_24 : decode cX4_digest 24 = .ok (.if_icmp .gt 22, 3) := by decide +kernel
theorem dX4_digest_27 : decode cX4_digest 27 = .ok (.lload_n 1, 1) := by decide +kernel
theorem dX4_digest_28 : decode cX4_digest 28 = .ok (.aload_n 0, 1) := by decide +kernel
theorem dX4_digest_29 : decode cX4_digest 29 = .ok (.iload_n 3, 1) := by decide +kernel
theorem dX4_digest_30 : decode cX4_digest 30 = .ok (.iload 4, 2) := by decide +kernel
theorem dX4_digest_32 : decode cX4_digest 32 = .ok (.invokevirtual 223, 3) := by decide +kernel
theorem dX4_digest_35 : decode cX4_digest 35 = .ok (.i2l, 1) := by decide +kernel
theorem dX4_digest_36 : decode cX4_digest 36 = .ok (.invokestatic 226, 3) := by decide +kernel
theorem dX4_digest_39 : decode cX4_digest 39 = .ok (.lstore_n 1, 1) := by decide +kernel
theorem dX4_digest_40 : decode cX4_digest 40 = .ok (.iinc 4 1, 3) := by decide +kernel
theorem dX4_digest_43 : decode cX4_digest 43 = .ok (.goto (-23), 3) := by decide +kernel
theorem dX4_digest_46 : decode cX4_digest 46 = .ok (.iinc 3 1, 3) := by decide +kernel
theorem dX4_digest_49 : decode cX4_digest 49 = .ok (.goto (-43), 3) := by decide +kernel
theorem dX4_digest_52 : decode cX4_digest 52 = .ok (.iconst 0, 1) := by decide +kernel
theorem dX4_digest_53 : decode cX4_digest 53 = .ok (.istore_n 3, 1) := by decide +kernel
theorem dX4_digest_54 : decode cX4_digest 54 = .ok (.iload_n 3, 1) := by decide +kernel
theorem dX4_digest_55 : decode cX4_digest 55 = .ok (.aload_n 0, 1) := by decide +kernel
theorem dX4_digest_56 : decode cX4_digest 56 = .ok (.getfield 19, 3) := by decide +kernel
theorem dX4_digest_59 : decode cX4_digest 59 = .ok (.getfield 77, 3) := by decide +kernel
theorem dX4_digest_62 : decode cX4_digest 62 = .ok (.if_icmp .ge 87, 3) := by decide +kernel
theorem dX4_digest_65 : decode cX4_digest 65 = .ok (.iconst 0, 1) := by decide +kernel
theorem dX4_digest_66 : decode cX4_digest 66 = .ok (.istore 4, 2) := by decide +kernel
theorem dX4_digest_68 : decode cX4_digest 68 = .ok (.iload 4, 2) := by decide +kernel
theorem dX4_digest_70 : decode cX4_digest 70 = .ok (.bipush 7, 2) := by decide +kernel
theorem dX4_digest_72 : decode cX4_digest 72 = .ok (.if_icmp .gt 22, 3) := by decide +kernel
theorem dX4_digest_75 : decode cX4_digest 75 = .ok (.lload_n 1, 1) := by decide +kernel
theorem dX4_digest_76 : decode cX4_digest 76 = .ok (.aload_n 0, 1) := by decide +kernel
theorem dX4_digest_77 : decode cX4_digest 77 = .ok (.iload_n 3, 1) := by decide +kernel
theorem dX4_digest_78 : decode cX4_digest 78 = .ok (.iload 4, 2) := by decide +kernel
theorem dX4_digest_80 : decode cX4_digest 80 = .ok (.invokevirtual 230, 3) := by decide +kernel
theorem dX4_digest_83 : decode cX4_digest 83 = .ok (.i2l, 1) := by decide +kernel
theorem dX4_digest_84 : decode cX4_digest 84 = .ok (.invokestatic 226, 3) := by decide +kernel
theorem dX4_digest_87 : decode cX4_digest 87 = .ok (.lstore_n 1, 1) := by decide +kernel
theorem dX4_digest_88 : decode cX4_digest 88 = .ok (.iinc 4 1, 3) := by decide +kernel
theorem dX4_digest_91 : decode cX4_digest 91 = .ok (.goto (-23), 3) := by decide +kernel
theorem dX4_digest_94 : decode cX4_digest 94 = .ok (.iconst 0, 1) := by decide +kernel
theorem dX4_digest_95 : decode cX4_digest 95 = .ok (.istore 4, 2) := by decide +kernel
theorem dX4_digest_97 : decode cX4_digest 97 = .ok (.iload 4, 2) := by decide +kernel
theorem dX4_digest_99 : decode cX4_digest 99 = .ok (.aload_n 0, 1) := by decide +kernel
theorem dX4_digest_100 : decode cX4_digest 100 = .ok (.getfield 19, 3) := by decide +kernel
theorem dX4_digest_103 : decode cX4_digest 103 = .ok (.getfield 206, 3) := by decide +kernel
theorem dX4_digest_106 : decode cX4_digest 106 = .ok (.if_icmp .ge 37, 3) := by decide +kernel
theorem dX4_digest_109 : decode cX4_digest 109 = .ok (.lload_n 1, 1) := by decide +kernel
theorem dX4_digest_110 : decode cX4_digest 110 = .ok (.aload_n 0, 1) := by decide +kernel
theorem dX4_digest_111 : decode cX4_digest 111 = .ok (.iload 4, 2) := by decide +kernel
theorem dX4_digest_113 : decode cX4_digest 113 = .ok (.iload_n 3, 1) := by decide +kernel
theorem dX4_digest_114 : decode cX4_digest 114 = .ok (.iconst 0, 1) := by decide +kernel
theorem dX4_digest_115 : decode cX4_digest 115 = .ok (.invokevirtual 233, 3) := by decide +kernel
theorem dX4_digest_118 : decode cX4_digest 118 = .ok (.i2l, 1) := by decide +kernel
theorem dX4_digest_119 : decode cX4_digest 119 = .ok (.invokestatic 226, 3) := by decide +kernel
theorem dX4_digest_122 : decode cX4_digest 122 = .ok (.lstore_n 1, 1) := by decide +kernel
theorem dX4_digest_123 : decode cX4_digest 123 = .ok (.lload_n 1, 1) := by decide +kernel
theorem dX4_digest_124 : decode cX4_digest 124 = .ok (.aload_n 0, 1) := by decide +kernel
theorem dX4_digest_125 : decode cX4_digest 125 = .ok (.iload 4, 2) := by decide +kernel
theorem dX4_digest_127 : decode cX4_digest 127 = .ok (.iload_n 3, 1) := by decide +kernel
theorem dX4_digest_128 : decode cX4_digest 128 = .ok (.iconst 1, 1) := by decide +kernel
theorem dX4_digest_129 : decode cX4_digest 129 = .ok (.invokevirtual 233, 3) := by decide +kernel
theorem dX4_digest_132 : decode cX4_digest 132 = .ok (.i2l, 1) := by decide +kernel
theorem dX4_digest_133 : decode cX4_digest 133 = .ok (.invokestatic 226, 3) := by decide +kernel
theorem dX4_digest_136 : decode cX4_digest 136 = .ok (.lstore_n 1, 1) := by decide +kernel
theorem dX4_digest_137 : decode cX4_digest 137 = .ok (.iinc 4 1, 3) := by decide +kernel
theorem dX4_digest_140 : decode cX4_digest 140 = .ok (.goto (-43), 3) := by decide +kernel
theorem dX4_digest_143 : decode cX4_digest 143 = .ok (.iinc 3 1, 3) := by decide +kernel
theorem dX4_digest_146 : decode cX4_digest 146 = .ok (.goto (-92), 3) := by decide +kernel
theorem dX4_digest_149 : decode cX4_digest 149 = .ok (.aload_n 0, 1) := by decide +kernel
theorem dX4_digest_150 : decode cX4_digest 150 = .ok (.invokevirtual 143, 3) := by decide +kernel
theorem dX4_digest_153 : decode cX4_digest 153 = .ok (.ifCond .eq 37, 3) := by decide +kernel
theorem dX4_digest_156 : decode cX4_digest 156 = .ok (.lload_n 1, 1) := by decide +kernel
theorem dX4_digest_157 : decode cX4_digest 157 = .ok (.aload_n 0, 1) := by decide +kernel
theorem dX4_digest_158 : decode cX4_digest 158 = .ok (.invokevirtual 236, 3) := by decide +kernel
theorem dX4_digest_161 : decode cX4_digest 161 = .ok (.i2l, 1) := by decide +kernel
theorem dX4_digest_162 : decode cX4_digest 162 = .ok (.invokestatic 226, 3) := by decide +kernel
theorem dX4_digest_165 : decode cX4_digest 165 = .ok (.lstore_n 1, 1) := by decide +kernel
theorem dX4_digest_166 : decode cX4_digest 166 = .ok (.lload_n 1, 1) := by decide +kernel
theorem dX4_digest_167 : decode cX4_digest 167 = .ok (.aload_n 0, 1) := by decide +kernel
theorem dX4_digest_168 : decode cX4_digest 168 = .ok (.iconst 3, 1) := by decide +kernel
theorem dX4_digest_169 : decode cX4_digest 169 = .ok (.iconst 0, 1) := by decide +kernel
theorem dX4_digest_170 : decode cX4_digest 170 = .ok (.invokevirtual 239, 3) := by decide +kernel
theorem dX4_digest_173 : decode cX4_digest 173 = .ok (.i2l, 1) := by decide +kernel
theorem dX4_digest_174 : decode cX4_digest 174 = .ok (.invokestatic 226, 3) := by decide +kernel
theorem dX4_digest_177 : decode cX4_digest 177 = .ok (.lstore_n 1, 1) := by decide +kernel
theorem dX4_digest_178 : decode cX4_digest 178 = .ok (.lload_n 1, 1) := by decide +kernel
theorem dX4_digest_179 : decode cX4_digest 179 = .ok (.aload_n 0, 1) := by decide +kernel
theorem dX4_digest_180 : decode cX4_digest 180 = .ok (.iconst 3, 1) := by decide +kernel
theorem dX4_digest_181 : decode cX4_digest 181 = .ok (.iconst 1, 1) := by decide +kernel
theorem dX4_digest_182 : decode cX4_digest 182 = .ok (.invokevirtual 239, 3) := by decide +kernel
theorem dX4_digest_185 : decode cX4_digest 185 = .ok (.i2l, 1) := by decide +kernel
theorem dX4_digest_186 : decode cX4_digest 186 = .ok (.invokestatic 226, 3) := by decide +kernel
theorem dX4_digest_189 : decode cX4_digest 189 = .ok (.lstore_n 1, 1) := by decide +kernel
theorem dX4_digest_190 : decode cX4_digest 190 = .ok (.iconst 0, 1) := by decide +kernel
theorem dX4_digest_191 : decode cX4_digest 191 = .ok (.istore_n 3, 1) := by decide +kernel
theorem dX4_digest_192 : decode cX4_digest 192 = .ok (.iload_n 3, 1) := by decide +kernel
theorem dX4_digest_193 : decode cX4_digest 193 = .ok (.aload_n 0, 1) := by decide +kernel
theorem dX4_digest_194 : decode cX4_digest 194 = .ok (.getfield 12, 3) := by decide +kernel
theorem dX4_digest_197 : decode cX4_digest 197 = .ok (.getfield 57, 3) := by decide +kernel
theorem dX4_digest_200 : decode cX4_digest 200 = .ok (.if_icmp .ge 24, 3) := by decide +kernel
theorem dX4_digest_203 : decode cX4_digest 203 = .ok (.lload_n 1, 1) := by decide +kernel
theorem dX4_digest_204 : decode cX4_digest 204 = .ok (.aload_n 0, 1) := by decide +kernel
theorem dX4_digest_205 : decode cX4_digest 205 = .ok (.getfield 12, 3) := by decide +kernel
theorem dX4_digest_208 : decode cX4_digest 208 = .ok (.getfield 242, 3) := by decide +kernel
theorem dX4_digest_211 : decode cX4_digest 211 = .ok (.iload_n 3, 1) := by decide +kernel
theorem dX4_digest_212 : decode cX4_digest 212 = .ok (.iaload, 1) := by decide +kernel
theorem dX4_digest_213 : decode cX4_digest 213 = .ok (.i2l, 1) := by decide +kernel
theorem dX4_digest_214 : decode cX4_digest 214 = .ok (.invokestatic 226, 3) := by decide +kernel
theorem dX4_digest_217 : decode cX4_digest 217 = .ok (.lstore_n 1, 1) := by decide +kernel
theorem dX4_digest_218 : decode cX4_digest 218 = .ok (.iinc 3 1, 3) := by decide +kernel
theorem dX4_digest_221 : decode cX4_digest 221 = .ok (.goto (-29), 3) := by decide +kernel
theorem dX4_digest_224 : decode cX4_digest 224 = .ok (.iconst 0, 1) := by decide +kernel
theorem dX4_digest_225 : decode cX4_digest 225 = .ok (.istore_n 3, 1) := by decide +kernel
theorem dX4_digest_226 : decode cX4_digest 226 = .ok (.iload_n 3, 1) := by decide +kernel
theorem dX4_digest_227 : decode cX4_digest 227 = .ok (.bipush 11, 2) := by decide +kernel
theorem dX4_digest_229 : decode cX4_digest 229 = .ok (.if_icmp .gt 20, 3) := by decide +kernel
theorem dX4_digest_232 : decode cX4_digest 232 = .ok (.lload_n 1, 1) := by decide +kernel
theorem dX4_digest_233 : decode cX4_digest 233 = .ok (.aload_n 0, 1) := by decide +kernel
theorem dX4_digest_234 : decode cX4_digest 234 = .ok (.iload_n 3, 1) := by decide +kernel
theorem dX4_digest_235 : decode cX4_digest 235 = .ok (.invokevirtual 245, 3) := by decide +kernel
theorem dX4_digest_238 : decode cX4_digest 238 = .ok (.i2l, 1) := by decide +kernel
theorem dX4_digest_239 : decode cX4_digest 239 = .ok (.invokestatic 226, 3) := by decide +kernel
theorem dX4_digest_242 : decode cX4_digest 242 = .ok (.lstore_n 1, 1) := by decide +kernel
theorem dX4_digest_243 : decode cX4_digest 243 = .ok (.iinc 3 1, 3) := by decide +kernel
theorem dX4_digest_246 : decode cX4_digest 246 = .ok (.goto (-20), 3) := by decide +kernel
theorem dX4_digest_249 : decode cX4_digest 249 = .ok (.lload_n 1, 1) := by decide +kernel
theorem dX4_digest_250 : decode cX4_digest 250 = .ok (.lreturn, 1) := by decide +kernel
theorem dX4_mixed_0 : decode cX4_mixed 0 = .ok (.ldc2_w 248, 3) := by decide +kernel
theorem dX4_mixed_3 : decode cX4_mixed 3 = .ok (.lload_n 0, 1) := by decide +kernel
theorem dX4_mixed_4 : decode cX4_mixed 4 = .ok (.lmul, 1) := by decide +kernel
theorem dX4_mixed_5 : decode cX4_mixed 5 = .ok (.lload_n 2, 1) := by decide +kernel
theorem dX4_mixed_6 : decode cX4_mixed 6 = .ok (.ladd, 1) := by decide +kernel
theorem dX4_mixed_7 : decode cX4_mixed 7 = .ok (.lreturn, 1) := by decide +kernel
theorem dX4_hasTable_0 : decode cX4_hasTable 0 = .ok (.aload_n 0, 1) := by decide +kernel
theorem dX4_hasTable_1 : decode cX4_hasTable 1 = .ok (.getfield 19, 3) := by decide +kernel
theorem dX4_hasTable_4 : decode cX4_hasTable 4 = .ok (.getfield 77, 3) := by decide +kernel
theorem dX4_hasTable_7 : decode cX4_hasTable 7 = .ok (.ifCond .le 7, 3) := by decide +kernel
theorem dX4_hasTable_10 : decode cX4_hasTable 10 = .ok (.iconst 1, 1) := by decide +kernel
theorem dX4_hasTable_11 : decode cX4_hasTable 11 = .ok (.goto 4, 3) := by decide +kernel
theorem dX4_hasTable_14 : decode cX4_hasTable 14 = .ok (.iconst 0, 1) := by decide +kernel
theorem dX4_hasTable_15 : decode cX4_hasTable 15 = .ok (.ireturn, 1) := by decide +kernel
theorem dX4_isWeight_0 : decode cX4_isWeight 0 = .ok (.iload_n 1, 1) := by decide +kernel
theorem dX4_isWeight_1 : decode cX4_isWeight 1 = .ok (.ifCond .lt 18, 3) := by decide +kernel
theorem dX4_isWeight_4 : decode cX4_isWeight 4 = .ok (.iload_n 1, 1) := by decide +kernel
theorem dX4_isWeight_5 : decode cX4_isWeight 5 = .ok (.aload_n 0, 1) := by decide +kernel
theorem dX4_isWeight_6 : decode cX4_isWeight 6 = .ok (.getfield 19, 3) := by decide +kernel
theorem dX4_isWeight_9 : decode cX4_isWeight 9 = .ok (.getfield 206, 3) := by decide +kernel
theorem dX4_isWeight_12 : decode cX4_isWeight 12 = .ok (.if_icmp .ge 7, 3) := by decide +kernel
theorem dX4_isWeight_15 : decode cX4_isWeight 15 = .ok (.iconst 1, 1) := by decide +kernel
theorem dX4_isWeight_16 : decode cX4_isWeight 16 = .ok (.goto 4, 3) := by decide +kernel
theorem dX4_isWeight_19 : decode cX4_isWeight 19 = .ok (.iconst 0, 1) := by decide +kernel
theorem dX4_isWeight_20 : decode cX4_isWeight 20 = .ok (.ireturn, 1) := by decide +kernel
theorem dX4_isVillage_0 : decode cX4_isVillage 0 = .ok (.iload_n 1, 1) := by decide +kernel
theorem dX4_isVillage_1 : decode cX4_isVillage 1 = .ok (.ifCond .lt 18, 3) := by decide +kernel
theorem dX4_isVillage_4 : decode cX4_isVillage 4 = .ok (.iload_n 1, 1) := by decide +kernel
theorem dX4_isVillage_5 : decode cX4_isVillage 5 = .ok (.aload_n 0, 1) := by decide +kernel
theorem dX4_isVillage_6 : decode cX4_isVillage 6 = .ok (.getfield 19, 3) := by decide +kernel
theorem dX4_isVillage_9 : decode cX4_isVillage 9 = .ok (.getfield 77, 3) := by decide +kernel
theorem dX4_isVillage_12 : decode cX4_isVillage 12 = .ok (.if_icmp .ge 7, 3) := by decide +kernel
theorem dX4_isVillage_15 : decode cX4_isVillage 15 = .ok (.iconst 1, 1) := by decide +kernel
theorem dX4_isVillage_16 : decode cX4_isVillage 16 = .ok (.goto 4, 3) := by decide +kernel
theorem dX4_isVillage_19 : decode cX4_isVillage 19 = .ok (.iconst 0, 1) := by decide +kernel
theorem dX4_isVillage_20 : decode cX4_isVillage 20 = .ok (.ireturn, 1) := by decide +kernel
theorem dX4_isWind_0 : decode cX4_isWind 0 = .ok (.iload_n 0, 1) := by decide +kernel
theorem dX4_isWind_1 : decode cX4_isWind 1 = .ok (.ifCond .lt 22, 3) := by decide +kernel
theorem dX4_isWind_4 : decode cX4_isWind 4 = .ok (.iload_n 0, 1) := by decide +kernel
theorem dX4_isWind_5 : decode cX4_isWind 5 = .ok (.iconst 2, 1) := by decide +kernel
theorem dX4_isWind_6 : decode cX4_isWind 6 = .ok (.if_icmp .ge 17, 3) := by decide +kernel
theorem dX4_isWind_9 : decode cX4_isWind 9 = .ok (.iload_n 1, 1) := by decide +kernel
theorem dX4_isWind_10 : decode cX4_isWind 10 = .ok (.ifCond .lt 13, 3) := by decide +kernel
theorem dX4_isWind_13 : decode cX4_isWind 13 = .ok (.iload_n 1, 1) := by decide +kernel
theorem dX4_isWind_14 : decode cX4_isWind 14 = .ok (.bipush 99, 2) := by decide +kernel
theorem dX4_isWind_16 : decode cX4_isWind 16 = .ok (.if_icmp .gt 7, 3) := by decide +kernel
theorem dX4_isWind_19 : decode cX4_isWind 19 = .ok (.iconst 1, 1) := by decide +kernel
theorem dX4_isWind_20 : decode cX4_isWind 20 = .ok (.goto 4, 3) := by decide +kernel
theorem dX4_isWind_23 : decode cX4_isWind 23 = .ok (.iconst 0, 1) := by decide +kernel
theorem dX4_isWind_24 : decode cX4_isWind 24 = .ok (.ireturn, 1) := by decide +kernel
theorem dX4_isPackAnswer_0 : decode cX4_isPackAnswer 0 = .ok (.iload_n 0, 1) := by decide +kernel
theorem dX4_isPackAnswer_1 : decode cX4_isPackAnswer 1 = .ok (.ifCond .eq 20, 3) := by decide +kernel
theorem dX4_isPackAnswer_4 : decode cX4_isPackAnswer 4 = .ok (.iload_n 0, 1) := by decide +kernel
theorem dX4_isPackAnswer_5 : decode cX4_isPackAnswer 5 = .ok (.iconst 1, 1) := by decide +kernel
theorem dX4_isPackAnswer_6 : decode cX4_isPackAnswer 6 = .ok (.if_icmp .eq 15, 3) := by decide +kernel
theorem dX4_isPackAnswer_9 : decode cX4_isPackAnswer 9 = .ok (.iload_n 0, 1) := by decide +kernel
theorem dX4_isPackAnswer_10 : decode cX4_isPackAnswer 10 = .ok (.bipush 10, 2) := by decide +kernel
theorem dX4_isPackAnswer_12 : decode cX4_isPackAnswer 12 = .ok (.if_icmp .lt 13, 3) := by decide +kernel
theorem dX4_isPackAnswer_15 : decode cX4_isPackAnswer 15 = .ok (.iload_n 0, 1) := by decide +kernel
theorem dX4_isPackAnswer_16 : decode cX4_isPackAnswer 16 = .ok (.bipush 14, 2) := by decide +kernel
theorem dX4_isPackAnswer_18 : decode cX4_isPackAnswer 18 = .ok (.if_icmp .ge 7, 3) := by decide +kernel
theorem dX4_isPackAnswer_21 : decode cX4_isPackAnswer 21 = .ok (.iconst 1, 1) := by decide +kernel
theorem dX4_isPackAnswer_22 : decode cX4_isPackAnswer 22 = .ok (.goto 4, 3) := by decide +kernel
theorem dX4_isPackAnswer_25 : decode cX4_isPackAnswer 25 = .ok (.iconst 0, 1) := by decide +kernel
theorem dX4_isPackAnswer_26 : decode cX4_isPackAnswer 26 = .ok (.ireturn, 1) := by decide +kernel
theorem dX4_isOfKind_0 : decode cX4_isOfKind 0 = .ok (.iload_n 1, 1) := by decide +kernel
theorem dX4_isOfKind_1 : decode cX4_isOfKind 1 = .ok (.ifCond .eq 18, 3) := by decide +kernel
theorem dX4_isOfKind_4 : decode cX4_isOfKind 4 = .ok (.iload_n 1, 1) := by decide +kernel
theorem dX4_isOfKind_5 : decode cX4_isOfKind 5 = .ok (.iload_n 0, 1) := by decide +kernel
theorem dX4_isOfKind_6 : decode cX4_isOfKind 6 = .ok (.if_icmp .eq 13, 3) := by decide +kernel
theorem dX4_isOfKind_9 : decode cX4_isOfKind 9 = .ok (.iload_n 1, 1) := by decide +kernel
theorem dX4_isOfKind_10 : decode cX4_isOfKind 10 = .ok (.iconst 1, 1) := by decide +kernel
theorem dX4_isOfKind_11 : decode cX4_isOfKind 11 = .ok (.if_icmp .ne 12, 3) := by decide +kernel
theorem dX4_isOfKind_14 : decode cX4_isOfKind 14 = .ok (.iload_n 0, 1) := by decide +kernel
theorem dX4_isOfKind_15 : decode cX4_isOfKind 15 = .ok (.iconst 4, 1) := by decide +kernel
theorem dX4_isOfKind_16 : decode cX4_isOfKind 16 = .ok (.if_icmp .ne 7, 3) := by decide +kernel
theorem dX4_isOfKind_19 : decode cX4_isOfKind 19 = .ok (.iconst 1, 1) := by decide +kernel
theorem dX4_isOfKind_20 : decode cX4_isOfKind 20 = .ok (.goto 4, 3) := by decide +kernel
theorem dX4_isOfKind_23 : decode cX4_isOfKind 23 = .ok (.iconst 0, 1) := by decide +kernel
theorem dX4_isOfKind_24 : decode cX4_isOfKind 24 = .ok (.ireturn, 1) := by decide +kernel
theorem dX4_bearing_0 : decode cX4_bearing 0 = .ok (.iload_n 0, 1) := by decide +kernel
theorem dX4_bearing_1 : decode cX4_bearing 1 = .ok (.tableswitch 42 1 4 #[31, 42, 35, 39], 31) := by decide +kernel
theorem dX4_bearing_32 : decode cX4_bearing 32 = .ok (.iconst 2, 1) := by decide +kernel
theorem dX4_bearing_33 : decode cX4_bearing 33 = .ok (.iload_n 1, 1) := by decide +kernel
theorem dX4_bearing_34 : decode cX4_bearing 34 = .ok (.imul, 1) := by decide +kernel
theorem dX4_bearing_35 : decode cX4_bearing 35 = .ok (.ireturn, 1) := by decide +kernel
theorem dX4_bearing_36 : decode cX4_bearing 36 = .ok (.iload_n 1, 1) := by decide +kernel
theorem dX4_bearing_37 : decode cX4_bearing 37 = .ok (.iload_n 2, 1) := by decide +kernel
theorem dX4_bearing_38 : decode cX4_bearing 38 = .ok (.iadd, 1) := by decide +kernel
theorem dX4_bearing_39 : decode cX4_bearing 39 = .ok (.ireturn, 1) := by decide +kernel
theorem dX4_bearing_40 : decode cX4_bearing 40 = .ok (.bipush 100, 2) := by decide +kernel
theorem dX4_bearing_42 : decode cX4_bearing 42 = .ok (.ireturn, 1) := by decide +kernel
theorem dX4_bearing_43 : decode cX4_bearing 43 = .ok (.iload_n 1, 1) := by decide +kernel
theorem dX4_bearing_44 : decode cX4_bearing 44 = .ok (.ireturn, 1) := by decide +kernel
theorem dX4_leverage_0 : decode cX4_leverage 0 = .ok (.iload_n 1, 1) := by decide +kernel
theorem dX4_leverage_1 : decode cX4_leverage 1 = .ok (.ifCond .ne 9, 3) := by decide +kernel
theorem dX4_leverage_4 : decode cX4_leverage 4 = .ok (.iconst 5, 1) := by decide +kernel
theorem dX4_leverage_5 : decode cX4_leverage 5 = .ok (.iload_n 0, 1) := by decide +kernel
theorem dX4_leverage_6 : decode cX4_leverage 6 = .ok (.isub, 1) := by decide +kernel
theorem dX4_leverage_7 : decode cX4_leverage 7 = .ok (.goto 6, 3) := by decide +kernel
theorem dX4_leverage_10 : decode cX4_leverage 10 = .ok (.iload_n 0, 1) := by decide +kernel
theorem dX4_leverage_11 : decode cX4_leverage 11 = .ok (.iconst 1, 1) := by decide +kernel
theorem dX4_leverage_12 : decode cX4_leverage 12 = .ok (.iadd, 1) := by decide +kernel
theorem dX4_leverage_13 : decode cX4_leverage 13 = .ok (.ireturn, 1) := by decide +kernel
theorem dX4_liftsAt_0 : decode cX4_liftsAt 0 = .ok (.iload_n 0, 1) := by decide +kernel
theorem dX4_liftsAt_1 : decode cX4_liftsAt 1 = .ok (.iconst 5, 1) := by decide +kernel
theorem dX4_liftsAt_2 : decode cX4_liftsAt 2 = .ok (.iload_n 1, 1) := by decide +kernel
theorem dX4_liftsAt_3 : decode cX4_liftsAt 3 = .ok (.imul, 1) := by decide +kernel
theorem dX4_liftsAt_4 : decode cX4_liftsAt 4 = .ok (.if_icmp .ge 7, 3) := by decide +kernel
theorem dX4_liftsAt_7 : decode cX4_liftsAt 7 = .ok (.iconst 1, 1) := by decide +kernel
theorem dX4_liftsAt_8 : decode cX4_liftsAt 8 = .ok (.goto 4, 3) := by decide +kernel
theorem dX4_liftsAt_11 : decode cX4_liftsAt 11 = .ok (.iconst 0, 1) := by decide +kernel
theorem dX4_liftsAt_12 : decode cX4_liftsAt 12 = .ok (.ireturn, 1) := by decide +kernel
theorem dX4_standBy_0 : decode cX4_standBy 0 = .ok (.bipush 99, 2) := by decide +kernel
theorem dX4_standBy_2 : decode cX4_standBy 2 = .ok (.iload_n 0, 1) := by decide +kernel
theorem dX4_standBy_3 : decode cX4_standBy 3 = .ok (.iconst 5, 1) := by decide +kernel
theorem dX4_standBy_4 : decode cX4_standBy 4 = .ok (.idiv, 1) := by decide +kernel
theorem dX4_standBy_5 : decode cX4_standBy 5 = .ok (.invokestatic 250, 3) := by decide +kernel
theorem dX4_standBy_8 : decode cX4_standBy 8 = .ok (.ireturn, 1) := by decide +kernel
theorem dX4_inLowestTerms_0 : decode cX4_inLowestTerms 0 = .ok (.bipush 20, 2) := by decide +kernel
theorem dX4_inLowestTerms_2 : decode cX4_inLowestTerms 2 = .ok (.istore_n 2, 1) := by decide +kernel
theorem dX4_inLowestTerms_3 : decode cX4_inLowestTerms 3 = .ok (.iload_n 2, 1) := by decide +kernel
theorem dX4_inLowestTerms_4 : decode cX4_inLowestTerms 4 = .ok (.iconst 1, 1) := by decide +kernel
theorem dX4_inLowestTerms_5 : decode cX4_inLowestTerms 5 = .ok (.if_icmp .le 25, 3) := by decide +kernel
theorem dX4_inLowestTerms_8 : decode cX4_inLowestTerms 8 = .ok (.iload_n 0, 1) := by decide +kernel
theorem dX4_inLowestTerms_9 : decode cX4_inLowestTerms 9 = .ok (.iload_n 2, 1) := by decide +kernel
theorem dX4_inLowestTerms_10 : decode cX4_inLowestTerms 10 = .ok (.irem, 1) := by decide +kernel
theorem dX4_inLowestTerms_11 : decode cX4_inLowestTerms 11 = .ok (.ifCond .ne 13, 3) := by decide +kernel
theorem dX4_inLowestTerms_14 : decode cX4_inLowestTerms 14 = .ok (.iload_n 1, 1) := by decide +kernel
theorem dX4_inLowestTerms_15 : decode cX4_inLowestTerms 15 = .ok (.iload_n 2, 1) := by decide +kernel
theorem dX4_inLowestTerms_16 : decode cX4_inLowestTerms 16 = .ok (.irem, 1) := by decide +kernel
theorem dX4_inLowestTerms_17 : decode cX4_inLowestTerms 17 = .ok (.ifCond .ne 7, 3) := by decide +kernel
theorem dX4_inLowestTerms_20 : decode cX4_inLowestTerms 20 = .ok (.iload_n 0, 1) := by decide +kernel
theorem dX4_inLowestTerms_21 : decode cX4_inLowestTerms 21 = .ok (.iload_n 2, 1) := by decide +kernel
theorem dX4_inLowestTerms_22 : decode cX4_inLowestTerms 22 = .ok (.idiv, 1) := by decide +kernel
theorem dX4_inLowestTerms_23 : decode cX4_inLowestTerms 23 = .ok (.ireturn, 1) := by decide +kernel
theorem dX4_inLowestTerms_24 : decode cX4_inLowestTerms 24 = .ok (.iinc 2 (-1), 3) := by decide +kernel
theorem dX4_inLowestTerms_27 : decode cX4_inLowestTerms 27 = .ok (.goto (-24), 3) := by decide +kernel
theorem dX4_inLowestTerms_30 : decode cX4_inLowestTerms 30 = .ok (.iload_n 0, 1) := by decide +kernel
theorem dX4_inLowestTerms_31 : decode cX4_inLowestTerms 31 = .ok (.ireturn, 1) := by decide +kernel
theorem dX4_nextSeed_0 : decode cX4_nextSeed 0 = .ok (.ldc2_w 255, 3) := by decide +kernel
theorem dX4_nextSeed_3 : decode cX4_nextSeed 3 = .ok (.iload_n 0, 1) := by decide +kernel
theorem dX4_nextSeed_4 : decode cX4_nextSeed 4 = .ok (.i2l, 1) := by decide +kernel
theorem dX4_nextSeed_5 : decode cX4_nextSeed 5 = .ok (.lmul, 1) := by decide +kernel
theorem dX4_nextSeed_6 : decode cX4_nextSeed 6 = .ok (.ldc2_w 257, 3) := by decide +kernel
theorem dX4_nextSeed_9 : decode cX4_nextSeed 9 = .ok (.ladd, 1) := by decide +kernel
theorem dX4_nextSeed_10 : decode cX4_nextSeed 10 = .ok (.ldc2_w 259, 3) := by decide +kernel
theorem dX4_nextSeed_13 : decode cX4_nextSeed 13 = .ok (.lrem, 1) := by decide +kernel
theorem dX4_nextSeed_14 : decode cX4_nextSeed 14 = .ok (.l2i, 1) := by decide +kernel
theorem dX4_nextSeed_15 : decode cX4_nextSeed 15 = .ok (.ireturn, 1) := by decide +kernel
theorem dX4_drawnOf_0 : decode cX4_drawnOf 0 = .ok (.iload_n 1, 1) := by decide +kernel
theorem dX4_drawnOf_1 : decode cX4_drawnOf 1 = .ok (.iconst 1, 1) := by decide +kernel
theorem dX4_drawnOf_2 : decode cX4_drawnOf 2 = .ok (.if_icmp .ge 7, 3) := by decide +kernel
theorem dX4_drawnOf_5 : decode cX4_drawnOf 5 = .ok (.iconst 0, 1) := by decide +kernel
theorem dX4_drawnOf_6 : decode cX4_drawnOf 6 = .ok (.goto 10, 3) := by decide +kernel
theorem dX4_drawnOf_9 : decode cX4_drawnOf 9 = .ok (.iload_n 0, 1) := by decide +kernel
theorem dX4_drawnOf_10 : decode cX4_drawnOf 10 = .ok (.ldc_w 261, 3) := by decide +kernel
theorem dX4_drawnOf_13 : decode cX4_drawnOf 13 = .ok (.idiv, 1) := by decide +kernel
theorem dX4_drawnOf_14 : decode cX4_drawnOf 14 = .ok (.iload_n 1, 1) := by decide +kernel
theorem dX4_drawnOf_15 : decode cX4_drawnOf 15 = .ok (.irem, 1) := by decide +kernel
theorem dX4_drawnOf_16 : decode cX4_drawnOf 16 = .ok (.ireturn, 1) := by decide +kernel
theorem dX5_init_0 : decode cX5_init 0 = .ok (.aload_n 0, 1) := by decide +kernel
theorem dX5_init_1 : decode cX5_init 1 = .ok (.invokespecial 1, 3) := by decide +kernel
theorem dX5_init_4 : decode cX5_init 4 = .ok (.aload_n 0, 1) := by decide +kernel
theorem dX5_init_5 : decode cX5_init 5 = .ok (.iconst 4, 1) := by decide +kernel
theorem dX5_init_6 : decode cX5_init 6 = .ok (.newarray .int, 2) := by decide +kernel
theorem dX5_init_8 : decode cX5_init 8 = .ok (.putfield 7, 3) := by decide +kernel
theorem dX5_init_11 : decode cX5_init 11 = .ok (.aload_n 0, 1) := by decide +kernel
theorem dX5_init_12 : decode cX5_init 12 = .ok (.iconst 5, 1) := by decide +kernel
theorem dX5_init_13 : decode cX5_init 13 = .ok (.newarray .int, 2) := by decide +kernel
theorem dX5_init_15 : decode cX5_init 15 = .ok (.putfield 13, 3) := by decide +kernel
theorem dX5_init_18 : decode cX5_init 18 = .ok (.aload_n 0, 1) := by decide +kernel
theorem dX5_init_19 : decode cX5_init 19 = .ok (.iconst 5, 1) := by decide +kernel
theorem dX5_init_20 : decode cX5_init 20 = .ok (.newarray .int, 2) := by decide +kernel
theorem dX5_init_22 : decode cX5_init 22 = .ok (.putfield 16, 3) := by decide +kernel
theorem dX5_init_25 : decode cX5_init 25 = .ok (.aload_n 0, 1) := by decide +kernel
theorem dX5_init_26 : decode cX5_init 26 = .ok (.iconst 5, 1) := by decide +kernel
theorem dX5_init_27 : decode cX5_init 27 = .ok (.newarray .int, 2) := by decide +kernel
theorem dX5_init_29 : decode cX5_init 29 = .ok (.putfield 19, 3) := by decide +kernel
theorem dX5_init_32 : decode cX5_init 32 = .ok (.aload_n 0, 1) := by decide +kernel
theorem dX5_init_33 : decode cX5_init 33 = .ok (.iconst 5, 1) := by decide +kernel
theorem dX5_init_34 : decode cX5_init 34 = .ok (.newarray .int, 2) := by decide +kernel
theorem dX5_init_36 : decode cX5_init 36 = .ok (.putfield 22, 3) := by decide +kernel
theorem dX5_init_39 : decode cX5_init 39 = .ok (.aload_n 0, 1) := by decide +kernel
theorem dX5_init_40 : decode cX5_init 40 = .ok (.iconst 5, 1) := by decide +kernel
theorem dX5_init_41 : decode cX5_init 41 = .ok (.newarray .int, 2) := by decide +kernel
theorem dX5_init_43 : decode cX5_init 43 = .ok (.putfield 25, 3) := by decide +kernel
theorem dX5_init_46 : decode cX5_init 46 = .ok (.aload_n 0, 1) := by decide +kernel
theorem dX5_init_47 : decode cX5_init 47 = .ok (.bipush 8, 2) := by decide +kernel
theorem dX5_init_49 : decode cX5_init 49 = .ok (.newarray .int, 2) := by decide +kernel
theorem dX5_init_51 : decode cX5_init 51 = .ok (.putfield 28, 3) := by decide +kernel
theorem dX5_init_54 : decode cX5_init 54 = .ok (.aload_n 0, 1) := by decide +kernel
theorem dX5_init_55 : decode cX5_init 55 = .ok (.bipush 8, 2) := by decide +kernel
theorem dX5_init_57 : decode cX5_init 57 = .ok (.newarray .int, 2) := by decide +kernel
theorem dX5_init_59 : decode cX5_init 59 = .ok (.putfield 31, 3) := by decide +kernel
theorem dX5_init_62 : decode cX5_init 62 = .ok (.aload_n 0, 1) := by decide +kernel
theorem dX5_init_63 : decode cX5_init 63 = .ok (.bipush 8, 2) := by decide +kernel
theorem dX5_init_65 : decode cX5_init 65 = .ok (.newarray .int, 2) := by decide +kernel
theorem dX5_init_67 : decode cX5_init 67 = .ok (.putfield 34, 3) := by decide +kernel
theorem dX5_init_70 : decode cX5_init 70 = .ok (.aload_n 0, 1) := by decide +kernel
theorem dX5_init_71 : decode cX5_init 71 = .ok (.bipush 8, 2) := by decide +kernel
theorem dX5_init_73 : decode cX5_init 73 = .ok (.newarray .int, 2) := by decide +kernel
theorem dX5_init_75 : decode cX5_init 75 = .ok (.putfield 37, 3) := by decide +kernel
theorem dX5_init_78 : decode cX5_init 78 = .ok (.aload_n 0, 1) := by decide +kernel
theorem dX5_init_79 : decode cX5_init 79 = .ok (.bipush 36, 2) := by decide +kernel
theorem dX5_init_81 : decode cX5_init 81 = .ok (.newarray .byte, 2) := by decide +kernel
theorem dX5_init_83 : decode cX5_init 83 = .ok (.putfield 40, 3) := by decide +kernel
theorem dX5_init_86 : decode cX5_init 86 = .ok (.aload_n 0, 1) := by decide +kernel
theorem dX5_init_87 : decode cX5_init 87 = .ok (.sipush 128, 3) := by decide +kernel
theorem dX5_init_90 : decode cX5_init 90 = .ok (.newarray .boolean, 2) := by decide +kernel
theorem dX5_init_92 : decode cX5_init 92 = .ok (.putfield 44, 3) := by decide +kernel
theorem dX5_init_95 : decode cX5_init 95 = .ok (.aload_n 0, 1) := by decide +kernel
theorem dX5_init_96 : decode cX5_init 96 = .ok (.iconst 5, 1) := by decide +kernel
theorem dX5_init_97 : decode cX5_init 97 = .ok (.newarray .int, 2) := by decide +kernel
theorem dX5_init_99 : decode cX5_init 99 = .ok (.putfield 48, 3) := by decide +kernel
theorem dX5_init_102 : decode cX5_init 102 = .ok (.aload_n 0, 1) := by decide +kernel
theorem dX5_init_103 : decode cX5_init 103 = .ok (.iconst 4, 1) := by decide +kernel
theorem dX5_init_104 : decode cX5_init 104 = .ok (.newarray .int, 2) := by decide +kernel
theorem dX5_init_106 : decode cX5_init 106 = .ok (.putfield 51, 3) := by decide +kernel
theorem dX5_init_109 : decode cX5_init 109 = .ok (.aload_n 0, 1) := by decide +kernel
theorem dX5_init_110 : decode cX5_init 110 = .ok (.iconst 4, 1) := by decide +kernel
theorem dX5_init_111 : decode cX5_init 111 = .ok (.newarray .int, 2) := by decide +kernel
theorem dX5_init_113 : decode cX5_init 113 = .ok (.putfield 54, 3) := by decide +kernel
theorem dX5_init_116 : decode cX5_init 116 = .ok (.aload_n 0, 1) := by decide +kernel
theorem dX5_init_117 : decode cX5_init 117 = .ok (.iconst 5, 1) := by decide +kernel
theorem dX5_init_118 : decode cX5_init 118 = .ok (.newarray .int, 2) := by decide +kernel
theorem dX5_init_120 : decode cX5_init 120 = .ok (.putfield 57, 3) := by decide +kernel
theorem dX5_init_123 : decode cX5_init 123 = .ok (.aload_n 0, 1) := by decide +kernel
theorem dX5_init_124 : decode cX5_init 124 = .ok (.iconst 5, 1) := by decide +kernel
theorem dX5_init_125 : decode cX5_init 125 = .ok (.newarray .int, 2) := by decide +kernel
theorem dX5_init_127 : decode cX5_init 127 = .ok (.putfield 60, 3) := by decide +kernel
theorem dX5_init_130 : decode cX5_init 130 = .ok (.aload_n 0, 1) := by decide +kernel
theorem dX5_init_131 : decode cX5_init 131 = .ok (.iconst 5, 1) := by decide +kernel
theorem dX5_init_132 : decode cX5_init 132 = .ok (.newarray .int, 2) := by decide +kernel
theorem dX5_init_134 : decode cX5_init 134 = .ok (.putfield 63, 3) := by decide +kernel
theorem dX5_init_137 : decode cX5_init 137 = .ok (.aload_n 0, 1) := by decide +kernel
theorem dX5_init_138 : decode cX5_init 138 = .ok (.iconst 5, 1) := by decide +kernel
theorem dX5_init_139 : decode cX5_init 139 = .ok (.newarray .int, 2) := by decide +kernel
theorem dX5_init_141 : decode cX5_init 141 = .ok (.putfield 66, 3) := by decide +kernel
theorem dX5_init_144 : decode cX5_init 144 = .ok (.aload_n 0, 1) := by decide +kernel
theorem dX5_init_145 : decode cX5_init 145 = .ok (.iconst 4, 1) := by decide +kernel
theorem dX5_init_146 : decode cX5_init 146 = .ok (.newarray .int, 2) := by decide +kernel
theorem dX5_init_148 : decode cX5_init 148 = .ok (.putfield 69, 3) := by decide +kernel
theorem dX5_init_151 : decode cX5_init 151 = .ok (.aload_n 0, 1) := by decide +kernel
theorem dX5_init_152 : decode cX5_init 152 = .ok (.iconst 5, 1) := by decide +kernel
theorem dX5_init_153 : decode cX5_init 153 = .ok (.newarray .int, 2) := by decide +kernel
theorem dX5_init_155 : decode cX5_init 155 = .ok (.putfield 72, 3) := by decide +kernel
theorem dX5_init_158 : decode cX5_init 158 = .ok (.aload_n 0, 1) := by decide +kernel
theorem dX5_init_159 : decode cX5_init 159 = .ok (.iconst 5, 1) := by decide +kernel
theorem dX5_init_160 : decode cX5_init 160 = .ok (.newarray .int, 2) := by decide +kernel
theorem dX5_init_162 : decode cX5_init 162 = .ok (.putfield 75, 3) := by decide +kernel
theorem dX5_init_165 : decode cX5_init 165 = .ok (.aload_n 0, 1) := by decide +kernel
theorem dX5_init_166 : decode cX5_init 166 = .ok (.iconst 5, 1) := by decide +kernel
theorem dX5_init_167 : decode cX5_init 167 = .ok (.newarray .int, 2) := by decide +kernel
theorem dX5_init_169 : decode cX5_init 169 = .ok (.putfield 78, 3) := by decide +kernel
theorem dX5_init_172 : decode cX5_init 172 = .ok (.aload_n 0, 1) := by decide +kernel
theorem dX5_init_173 : decode cX5_init 173 = .ok (.iconst 5, 1) := by decide +kernel
theorem dX5_init_174 : decode cX5_init 174 = .ok (.newarray .int, 2) := by decide +kernel
theorem dX5_init_176 : decode cX5_init 176 = .ok (.putfield 81, 3) := by decide +kernel
theorem dX5_init_179 : decode cX5_init 179 = .ok (.aload_n 0, 1) := by decide +kernel
theorem dX5_init_180 : decode cX5_init 180 = .ok (.bipush 8, 2) := by decide +kernel
theorem dX5_init_182 : decode cX5_init 182 = .ok (.newarray .int, 2) := by decide +kernel
theorem dX5_init_184 : decode cX5_init 184 = .ok (.putfield 84, 3) := by decide +kernel
theorem dX5_init_187 : decode cX5_init 187 = .ok (.aload_n 0, 1) := by decide +kernel
theorem dX5_init_188 : decode cX5_init 188 = .ok (.bipush 8, 2) := by decide +kernel
theorem dX5_init_190 : decode cX5_init 190 = .ok (.newarray .int, 2) := by decide +kernel
theorem dX5_init_192 : decode cX5_init 192 = .ok (.putfield 87, 3) := by decide +kernel
theorem dX5_init_195 : decode cX5_init 195 = .ok (.aload_n 0, 1) := by decide +kernel
theorem dX5_init_196 : decode cX5_init 196 = .ok (.bipush 8, 2) := by decide +kernel
theorem dX5_init_198 : decode cX5_init 198 = .ok (.newarray .int, 2) := by decide +kernel
theorem dX5_init_200 : decode cX5_init 200 = .ok (.putfield 90, 3) := by decide +kernel
theorem dX5_init_203 : decode cX5_init 203 = .ok (.aload_n 0, 1) := by decide +kernel
theorem dX5_init_204 : decode cX5_init 204 = .ok (.bipush 8, 2) := by decide +kernel
theorem dX5_init_206 : decode cX5_init 206 = .ok (.newarray .int, 2) := by decide +kernel
theorem dX5_init_208 : decode cX5_init 208 = .ok (.putfield 93, 3) := by decide +kernel
theorem dX5_init_211 : decode cX5_init 211 = .ok (.return_, 1) := by decide +kernel
theorem dX5_within_0 : decode cX5_within 0 = .ok (.iload_n 0, 1) := by decide +kernel
theorem dX5_within_1 : decode cX5_within 1 = .ok (.iload_n 1, 1) := by decide +kernel
theorem dX5_within_2 : decode cX5_within 2 = .ok (.if_icmp .lt 12, 3) := by decide +kernel
theorem dX5_within_5 : decode cX5_within 5 = .ok (.iload_n 0, 1) := by decide +kernel
theorem dX5_within_6 : decode cX5_within 6 = .ok (.iload_n 2, 1) := by decide +kernel
theorem dX5_within_7 : decode cX5_within 7 = .ok (.if_icmp .gt 7, 3) := by decide +kernel
theorem dX5_within_10 : decode cX5_within 10 = .ok (.iconst 1, 1) := by decide +kernel
theorem dX5_within_11 : decode cX5_within 11 = .ok (.goto 4, 3) := by decide +kernel
theorem dX5_within_14 : decode cX5_within 14 = .ok (.iconst 0, 1) := by decide +kernel
theorem dX5_within_15 : decode cX5_within 15 = .ok (.ireturn, 1) := by decide +kernel
theorem dX5_isIn_0 : decode cX5_isIn 0 = .ok (.iload_n 0, 1) := by decide +kernel
theorem dX5_isIn_1 : decode cX5_isIn 1 = .ok (.iload_n 1, 1) := by decide +kernel
theorem dX5_isIn_2 : decode cX5_isIn 2 = .ok (.ishr, 1) := by decide +kernel
theorem dX5_isIn_3 : decode cX5_isIn 3 = .ok (.iconst 1, 1) := by decide +kernel
theorem dX5_isIn_4 : decode cX5_isIn 4 = .ok (.iand, 1) := by decide +kernel
theorem dX5_isIn_5 : decode cX5_isIn 5 = .ok (.iconst 1, 1) := by decide +kernel
theorem dX5_isIn_6 : decode cX5_isIn 6 = .ok (.if_icmp .ne 7, 3) := by decide +kernel
theorem dX5_isIn_9 : decode cX5_isIn 9 = .ok (.iconst 1, 1) := by decide +kernel
theorem dX5_isIn_10 : decode cX5_isIn 10 = .ok (.goto 4, 3) := by decide +kernel
theorem dX5_isIn_13 : decode cX5_isIn 13 = .ok (.iconst 0, 1) := by decide +kernel
theorem dX5_isIn_14 : decode cX5_isIn 14 = .ok (.ireturn, 1) := by decide +kernel
theorem dX5_size_0 : decode cX5_size 0 = .ok (.iconst 0, 1) := by decide +kernel
theorem dX5_size_1 : decode cX5_size 1 = .ok (.istore_n 1, 1) := by decide +kernel
theorem dX5_size_2 : decode cX5_size 2 = .ok (.iconst 0, 1) := by decide +kernel
theorem dX5_size_3 : decode cX5_size 3 = .ok (.istore_n 2, 1) := by decide +kernel
theorem dX5_size_4 : decode cX5_size 4 = .ok (.iload_n 2, 1) := by decide +kernel
theorem dX5_size_5 : decode cX5_size 5 = .ok (.bipush 10, 2) := by decide +kernel
theorem dX5_size_7 : decode cX5_size 7 = .ok (.if_icmp .ge 17, 3) := by decide +kernel
theorem dX5_size_10 : decode cX5_size 10 = .ok (.iload_n 1, 1) := by decide +kernel
theorem dX5_size_11 : decode cX5_size 11 = .ok (.iload_n 0, 1) := by decide +kernel
theorem dX5_size_12 : decode cX5_size 12 = .ok (.iload_n 2, 1) := by decide +kernel
theorem dX5_size_13 : decode cX5_size 13 = .ok (.ishr, 1) := by decide +kernel
theorem dX5_size_14 : decode cX5_size 14 = .ok (.iconst 1, 1) := by decide +kernel
theorem dX5_size_15 : decode cX5_size 15 = .ok (.iand, 1) := by decide +kernel
theorem dX5_size_16 : decode cX5_size 16 = .ok (.iadd, 1) := by decide +kernel
theorem dX5_size_17 : decode cX5_size 17 = .ok (.istore_n 1, 1) := by decide +kernel
theorem dX5_size_18 : decode cX5_size 18 = .ok (.iinc 2 1, 3) := by decide +kernel
theorem dX5_size_21 : decode cX5_size 21 = .ok (.goto (-17), 3) := by decide +kernel
theorem dX5_size_24 : decode cX5_size 24 = .ok (.iload_n 1, 1) := by decide +kernel
theorem dX5_size_25 : decode cX5_size 25 = .ok (.ireturn, 1) := by decide +kernel
theorem dX5_divisor_0 : decode cX5_divisor 0 = .ok (.iload_n 0, 1) := by decide +kernel
theorem dX5_divisor_1 : decode cX5_divisor 1 = .ok (.istore_n 2, 1) := by decide +kernel
theorem dX5_divisor_2 : decode cX5_divisor 2 = .ok (.iload_n 1, 1) := by decide +kernel
theorem dX5_divisor_3 : decode cX5_divisor 3 = .ok (.istore_n 3, 1) := by decide +kernel
theorem dX5_divisor_4 : decode cX5_divisor 4 = .ok (.iload_n 3, 1) := by decide +kernel
theorem dX5_divisor_5 : decode cX5_divisor 5 = .ok (.ifCond .eq 16, 3) := by decide +kernel
theorem dX5_divisor_8 : decode cX5_divisor 8 = .ok (.iload_n 2, 1) := by decide +kernel
theorem dX5_divisor_9 : decode cX5_divisor 9 = .ok (.iload_n 3, 1) := by decide +kernel
theorem dX5_divisor_10 : decode cX5_divisor 10 = .ok (.irem, 1) := by decide +kernel
theorem dX5_divisor_11 : decode cX5_divisor 11 = .ok (.istore 4, 2) := by decide +kernel
theorem dX5_divisor_13 : decode cX5_divisor 13 = .ok (.iload_n 3, 1) := by decide +kernel
theorem dX5_divisor_14 : decode cX5_divisor 14 = .ok (.istore_n 2, 1) := by decide +kernel
theorem dX5_divisor_15 : decode cX5_divisor 15 = .ok (.iload 4, 2) := by decide +kernel
theorem dX5_divisor_17 : decode cX5_divisor 17 = .ok (.istore_n 3, 1) := by decide +kernel
theorem dX5_divisor_18 : decode cX5_divisor 18 = .ok (.goto (-14), 3) := by decide +kernel
theorem dX5_divisor_21 : decode cX5_divisor 21 = .ok (.iload_n 2, 1) := by decide +kernel
theorem dX5_divisor_22 : decode cX5_divisor 22 = .ok (.ireturn, 1) := by decide +kernel
theorem dX5_letter_0 : decode cX5_letter 0 = .ok (.iload_n 1, 1) := by decide +kernel
theorem dX5_letter_1 : decode cX5_letter 1 = .ok (.bipush 32, 2) := by decide +kernel
theorem dX5_letter_3 : decode cX5_letter 3 = .ok (.bipush 126, 2) := by decide +kernel
theorem dX5_letter_5 : decode cX5_letter 5 = .ok (.invokestatic 96, 3) := by decide +kernel
theorem dX5_letter_8 : decode cX5_letter 8 = .ok (.ifCond .ne 6, 3) := by decide +kernel
theorem dX5_letter_11 : decode cX5_letter 11 = .ok (.bipush (-102), 2) := by decide +kernel
theorem dX5_letter_13 : decode cX5_letter 13 = .ok (.ireturn, 1) := by decide +kernel
theorem dX5_letter_14 : decode cX5_letter 14 = .ok (.aload_n 0, 1) := by decide +kernel
theorem dX5_letter_15 : decode cX5_letter 15 = .ok (.getfield 100, 3) := by decide +kernel
theorem dX5_letter_18 : decode cX5_letter 18 = .ok (.bipush 36, 2) := by decide +kernel
theorem dX5_letter_20 : decode cX5_letter 20 = .ok (.if_icmp .ne 6, 3) := by decide +kernel
theorem dX5_letter_23 : decode cX5_letter 23 = .ok (.bipush (-104), 2) := by decide +kernel
theorem dX5_letter_25 : decode cX5_letter 25 = .ok (.ireturn, 1) := by decide +kernel
theorem dX5_letter_26 : decode cX5_letter 26 = .ok (.aload_n 0, 1) := by decide +kernel
theorem dX5_letter_27 : decode cX5_letter 27 = .ok (.getfield 40, 3) := by decide +kernel
theorem dX5_letter_30 : decode cX5_letter 30 = .ok (.aload_n 0, 1) := by decide +kernel
theorem dX5_letter_31 : decode cX5_letter 31 = .ok (.getfield 100, 3) := by decide +kernel
theorem dX5_letter_34 : decode cX5_letter 34 = .ok (.iload_n 1, 1) := by decide +kernel
theorem dX5_letter_35 : decode cX5_letter 35 = .ok (.i2b, 1) := by decide +kernel
theorem dX5_letter_36 : decode cX5_letter 36 = .ok (.bastore, 1) := by decide +kernel
theorem dX5_letter_37 : decode cX5_letter 37 = .ok (.aload_n 0, 1) := by decide +kernel
theorem dX5_letter_38 : decode cX5_letter 38 = .ok (.dup, 1) := by decide +kernel
theorem dX5_letter_39 : decode cX5_letter 39 = .ok (.getfield 100, 3) := by decide +kernel
theorem dX5_letter_42 : decode cX5_letter 42 = .ok (.iconst 1, 1) := by decide +kernel
theorem dX5_letter_43 : decode cX5_letter 43 = .ok (.iadd, 1) := by decide +kernel
theorem dX5_letter_44 : decode cX5_letter 44 = .ok (.putfield 100, 3) := by decide +kernel
theorem dX5_letter_47 : decode cX5_letter 47 = .ok (.aload_n 0, 1) := by decide +kernel
theorem dX5_letter_48 : decode cX5_letter 48 = .ok (.getfield 100, 3) := by decide +kernel
theorem dX5_letter_51 : decode cX5_letter 51 = .ok (.ireturn, 1) := by decide +kernel
theorem dX5_blank_0 : decode cX5_blank 0 = .ok (.aload_n 0, 1) := by decide +kernel
theorem dX5_blank_1 : decode cX5_blank 1 = .ok (.getfield 100, 3) := by decide +kernel
theorem dX5_blank_4 : decode cX5_blank 4 = .ok (.istore_n 1, 1) := by decide +kernel
theorem dX5_blank_5 : decode cX5_blank 5 = .ok (.aload_n 0, 1) := by decide +kernel
theorem dX5_blank_6 : decode cX5_blank 6 = .ok (.iconst 0, 1) := by decide +kernel
theorem dX5_blank_7 : decode cX5_blank 7 = .ok (.putfield 100, 3) := by decide +kernel
theorem dX5_blank_10 : decode cX5_blank 10 = .ok (.iload_n 1, 1) := by decide +kernel
theorem dX5_blank_11 : decode cX5_blank 11 = .ok (.ireturn, 1) := by decide +kernel
theorem dX5_kindBy_0 : decode cX5_kindBy 0 = .ok (.iload_n 0, 1) := by decide +kernel
theorem dX5_kindBy_1 : decode cX5_kindBy 1 = .ok (.lookupswitch 61 #[(98, 53), (99, 55), (112, 59), (115, 57), (119, 51)], 51) := by decide +kernel
theorem dX5_kindBy_52 : decode cX5_kindBy 52 = .ok (.iconst 0, 1) := by decide +kernel
theorem dX5_kindBy_53 : decode cX5_kindBy 53 = .ok (.ireturn, 1) := by decide +kernel
theorem dX5_kindBy_54 : decode cX5_kindBy 54 = .ok (.iconst 1, 1) := by decide +kernel
theorem dX5_kindBy_55 : decode cX5_kindBy 55 = .ok (.ireturn, 1) := by decide +kernel
theorem dX5_kindBy_56 : decode cX5_kindBy 56 = .ok (.iconst 2, 1) := by decide +kernel
theorem dX5_kindBy_57 : decode cX5_kindBy 57 = .ok (.ireturn, 1) := by decide +kernel
theorem dX5_kindBy_58 : decode cX5_kindBy 58 = .ok (.iconst 3, 1) := by decide +kernel
theorem dX5_kindBy_59 : decode cX5_kindBy 59 = .ok (.ireturn, 1) := by decide +kernel
theorem dX5_kindBy_60 : decode cX5_kindBy 60 = .ok (.iconst 4, 1) := by decide +kernel
theorem dX5_kindBy_61 : decode cX5_kindBy 61 = .ok (.ireturn, 1) := by decide +kernel
theorem dX5_kindBy_62 : decode cX5_kindBy 62 = .ok (.iconst (-1), 1) := by decide +kernel
theorem dX5_kindBy_63 : decode cX5_kindBy 63 = .ok (.ireturn, 1) := by decide +kernel
theorem dX5_at_0 : decode cX5_at 0 = .ok (.iload_n 1, 1) := by decide +kernel
theorem dX5_at_1 : decode cX5_at 1 = .ok (.aload_n 0, 1) := by decide +kernel
theorem dX5_at_2 : decode cX5_at 2 = .ok (.getfield 100, 3) := by decide +kernel
theorem dX5_at_5 : decode cX5_at 5 = .ok (.if_icmp .ge 12, 3) := by decide +kernel
theorem dX5_at_8 : decode cX5_at 8 = .ok (.aload_n 0, 1) := by decide +kernel
theorem dX5_at_9 : decode cX5_at 9 = .ok (.getfield 40, 3) := by decide +kernel
theorem dX5_at_12 : decode cX5_at 12 = .ok (.iload_n 1, 1) := by decide +kernel
theorem dX5_at_13 : decode cX5_at 13 = .ok (.baload, 1) := by decide +kernel
theorem dX5_at_14 : decode cX5_at 14 = .ok (.goto 4, 3) := by decide +kernel
theorem dX5_at_17 : decode cX5_at 17 = .ok (.iconst 0, 1) := by decide +kernel
theorem dX5_at_18 : decode cX5_at 18 = .ok (.ireturn, 1) := by decide +kernel
theorem dX5_isFigure_0 : decode cX5_isFigure 0 = .ok (.aload_n 0, 1) := by decide +kernel
theorem dX5_isFigure_1 : decode cX5_isFigure 1 = .ok (.iload_n 1, 1) := by decide +kernel
theorem dX5_isFigure_2 : decode cX5_isFigure 2 = .ok (.invokevirtual 104, 3) := by decide +kernel
theorem dX5_isFigure_5 : decode cX5_isFigure 5 = .ok (.bipush 48, 2) := by decide +kernel
theorem dX5_isFigure_7 : decode cX5_isFigure 7 = .ok (.isub, 1) := by decide +kernel
theorem dX5_isFigure_8 : decode cX5_isFigure 8 = .ok (.iload_n 2, 1) := by decide +kernel
theorem dX5_isFigure_9 : decode cX5_isFigure 9 = .ok (.iload_n 3, 1) := by decide +kernel
theorem dX5_isFigure_10 : decode cX5_isFigure 10 = .ok (.invokestatic 96, 3) := by decide +kernel
theorem dX5_isFigure_13 : decode cX5_isFigure 13 = .ok (.ireturn, 1) := by decide +kernel
theorem dX5_readWeights_0 : decode cX5_readWeights 0 = .ok (.iload_n 1, 1) := by decide +kernel
theorem dX5_readWeights_1 : decode cX5_readWeights 1 = .ok (.istore_n 2, 1) := by decide +kernel
theorem dX5_readWeights_2 : decode cX5_readWeights 2 = .ok (.aload_n 0, 1) := by decide +kernel
theorem dX5_readWeights_3 : decode cX5_readWeights 3 = .ok (.getfield 108, 3) := by decide +kernel
theorem dX5_readWeights_6 : decode cX5_readWeights 6 = .ok (.iconst 5, 1) := by decide +kernel
theorem dX5_readWeights_7 : decode cX5_readWeights 7 = .ok (.if_icmp .ge 127, 3) := by decide +kernel
theorem dX5_readWeights_10 : decode cX5_readWeights 10 = .ok (.aload_n 0, 1) := by decide +kernel
theorem dX5_readWeights_11 : decode cX5_readWeights 11 = .ok (.iload_n 2, 1) := by decide +kernel
theorem dX5_readWeights_12 : decode cX5_readWeights 12 = .ok (.invokevirtual 104, 3) := by decide +kernel
theorem dX5_readWeights_15 : decode cX5_readWeights 15 = .ok (.invokestatic 111, 3) := by decide +kernel
theorem dX5_readWeights_18 : decode cX5_readWeights 18 = .ok (.iconst (-1), 1) := by decide +kernel
theorem dX5_readWeights_19 : decode cX5_readWeights 19 = .ok (.if_icmp .ne 5, 3) := by decide +kernel
theorem dX5_readWeights_22 : decode cX5_readWeights 22 = .ok (.iload_n 2, 1) := by decide +kernel
theorem dX5_readWeights_23 : decode cX5_readWeights 23 = .ok (.ireturn, 1) := by decide +kernel
theorem dX5_readWeights_24 : decode cX5_readWeights 24 = .ok (.aload_n 0, 1) := by decide +kernel
theorem dX5_readWeights_25 : decode cX5_readWeights 25 = .ok (.iload_n 2, 1) := by decide +kernel
theorem dX5_readWeights_26 : decode cX5_readWeights 26 = .ok (.iconst 1, 1) := by decide +kernel
theorem dX5_readWeights_27 : decode cX5_readWeights 27 = .ok (.iadd, 1) := by decide +kernel
theorem dX5_readWeights_28 : decode cX5_readWeights 28 = .ok (.iconst 1, 1) := by decide +kernel
theorem dX5_readWeights_29 : decode cX5_readWeights 29 = .ok (.bipush 9, 2) := by decide +kernel
theorem dX5_readWeights_31 : decode cX5_readWeights 31 = .ok (.invokevirtual 114, 3) := by decide +kernel
theorem dX5_readWeights_34 : decode cX5_readWeights 34 = .ok (.ifCond .ne 7, 3) := by decide +kernel
theorem dX5_readWeights_37 : decode cX5_readWeights 37 = .ok (.iload_n 2, 1) := by decide +kernel
theorem dX5_readWeights_38 : decode cX5_readWeights 38 = .ok (.iconst 1, 1) := by decide +kernel
theorem dX5_readWeights_39 : decode cX5_readWeights 39 = .ok (.iadd, 1) := by decide +kernel
theorem dX5_readWeights_40 : decode cX5_readWeights 40 = .ok (.ireturn, 1) := by decide +kernel
theorem dX5_readWeights_41 : decode cX5_readWeights 41 = .ok (.aload_n 0, 1) := by decide +kernel
theorem dX5_readWeights_42 : decode cX5_readWeights 42 = .ok (.iload_n 2, 1) := by decide +kernel
theorem dX5_readWeights_43 : decode cX5_readWeights 43 = .ok (.iconst 2, 1) := by decide +kernel
theorem dX5_readWeights_44 : decode cX5_readWeights 44 = .ok (.iadd, 1) := by decide +kernel
theorem dX5_readWeights_45 : decode cX5_readWeights 45 = .ok (.iconst 0, 1) := by decide +kernel
theorem dX5_readWeights_46 : decode cX5_readWeights 46 = .ok (.aload_n 0, 1) := by decide +kernel
theorem dX5_readWeights_47 : decode cX5_readWeights 47 = .ok (.getfield 117, 3) := by decide +kernel
theorem dX5_readWeights_50 : decode cX5_readWeights 50 = .ok (.iconst 1, 1) := by decide +kernel
theorem dX5_readWeights_51 : decode cX5_readWeights 51 = .ok (.isub, 1) := by decide +kernel
theorem dX5_readWeights_52 : decode cX5_readWeights 52 = .ok (.invokevirtual 114, 3) := by decide +kernel
theorem dX5_readWeights_55 : decode cX5_readWeights 55 = .ok (.ifCond .ne 7, 3) := by decide +kernel
theorem dX5_readWeights_58 : decode cX5_readWeights 58 = .ok (.iload_n 2, 1) := by decide +kernel
theorem dX5_readWeights_59 : decode cX5_readWeights 59 = .ok (.iconst 2, 1) := by decide +kernel
theorem dX5_readWeights_60 : decode cX5_readWeights 60 = .ok (.iadd, 1) := by decide +kernel
theorem dX5_readWeights_61 : decode cX5_readWeights 61 = .ok (.ireturn, 1) := by decide +kernel
theorem dX5_readWeights_62 : decode cX5_readWeights 62 = .ok (.aload_n 0, 1) := by decide +kernel
theorem dX5_readWeights_63 : decode cX5_readWeights 63 = .ok (.iload_n 2, 1) := by decide +kernel
theorem dX5_readWeights_64 : decode cX5_readWeights 64 = .ok (.iconst 3, 1) := by decide +kernel
theorem dX5_readWeights_65 : decode cX5_readWeights 65 = .ok (.iadd, 1) := by decide +kernel
theorem dX5_readWeights_66 : decode cX5_readWeights 66 = .ok (.iconst 0, 1) := by decide +kernel
theorem dX5_readWeights_67 : decode cX5_readWeights 67 = .ok (.iconst 4, 1) := by decide +kernel
theorem dX5_readWeights_68 : decode cX5_readWeights 68 = .ok (.invokevirtual 114, 3) := by decide +kernel
theorem dX5_readWeights_71 : decode cX5_readWeights 71 = .ok (.ifCond .ne 7, 3) := by decide +kernel
theorem dX5_readWeights_74 : decode cX5_readWeights 74 = .ok (.iload_n 2, 1) := by decide +kernel
theorem dX5_readWeights_75 : decode cX5_readWeights 75 = .ok (.iconst 3, 1) := by decide +kernel
theorem dX5_readWeights_76 : decode cX5_readWeights 76 = .ok (.iadd, 1) := by decide +kernel
theorem dX5_readWeights_77 : decode cX5_readWeights 77 = .ok (.ireturn, 1) := by decide +kernel
theorem dX5_readWeights_78 : decode cX5_readWeights 78 = .ok (.aload_n 0, 1) := by decide +kernel
theorem dX5_readWeights_79 : decode cX5_readWeights 79 = .ok (.dup, 1) := by decide +kernel
theorem dX5_readWeights_80 : decode cX5_readWeights 80 = .ok (.getfield 108, 3) := by decide +kernel
theorem dX5_readWeights_83 : decode cX5_readWeights 83 = .ok (.iconst 1, 1) := by decide +kernel
theorem dX5_readWeights_84 : decode cX5_readWeights 84 = .ok (.iadd, 1) := by decide +kernel
theorem dX5_readWeights_85 : decode cX5_readWeights 85 = .ok (.putfield 108, 3) := by decide +kernel
theorem dX5_readWeights_88 : decode cX5_readWeights 88 = .ok (.iinc 2 4, 3) := by decide +kernel
theorem dX5_readWeights_91 : decode cX5_readWeights 91 = .ok (.aload_n 0, 1) := by decide +kernel
theorem dX5_readWeights_92 : decode cX5_readWeights 92 = .ok (.iload_n 2, 1) := by decide +kernel
theorem dX5_readWeights_93 : decode cX5_readWeights 93 = .ok (.aload_n 0, 1) := by decide +kernel
theorem dX5_readWeights_94 : decode cX5_readWeights 94 = .ok (.getfield 100, 3) := by decide +kernel
theorem dX5_readWeights_97 : decode cX5_readWeights 97 = .ok (.if_icmp .ne 7, 3) := by decide +kernel
theorem dX5_readWeights_100 : decode cX5_readWeights 100 = .ok (.iconst 1, 1) := by decide +kernel
theorem dX5_readWeights_101 : decode cX5_readWeights 101 = .ok (.goto 4, 3) := by decide +kernel
theorem dX5_readWeights_104 : decode cX5_readWeights 104 = .ok (.iconst 0, 1) := by decide +kernel
theorem dX5_readWeights_105 : decode cX5_readWeights 105 = .ok (.putfield 120, 3) := by decide +kernel
theorem dX5_readWeights_108 : decode cX5_readWeights 108 = .ok (.aload_n 0, 1) := by decide +kernel
theorem dX5_readWeights_109 : decode cX5_readWeights 109 = .ok (.getfield 108, 3) := by decide +kernel
theorem dX5_readWeights_112 : decode cX5_readWeights 112 = .ok (.iconst 5, 1) := by decide +kernel
theorem dX5_readWeights_113 : decode cX5_readWeights 113 = .ok (.if_icmp .eq 13, 3) := by decide +kernel
theorem dX5_readWeights_116 : decode cX5_readWeights 116 = .ok (.aload_n 0, 1) := by decide +kernel
theorem dX5_readWeights_117 : decode cX5_readWeights 117 = .ok (.iload_n 2, 1) := by decide +kernel
theorem dX5_readWeights_118 : decode cX5_readWeights 118 = .ok (.invokevirtual 104, 3) := by decide +kernel
theorem dX5_readWeights_121 : decode cX5_readWeights 121 = .ok (.bipush 44, 2) := by decide +kernel
theorem dX5_readWeights_123 : decode cX5_readWeights 123 = .ok (.if_icmp .eq 5, 3) := by decide +kernel
theorem dX5_readWeights_126 : decode cX5_readWeights 126 = .ok (.iload_n 2, 1) := by decide +kernel
theorem dX5_readWeights_127 : decode cX5_readWeights 127 = .ok (.ireturn, 1) := by decide +kernel
theorem dX5_readWeights_128 : decode cX5_readWeights 128 = .ok (.iinc 2 1, 3) := by decide +kernel
theorem dX5_readWeights_131 : decode cX5_readWeights 131 = .ok (.goto (-129), 3) := by decide +kernel
theorem dX5_readWeights_134 : decode cX5_readWeights 134 = .ok (.iload_n 2, 1) := by decide +kernel
theorem dX5_readWeights_135 : decode cX5_readWeights 135 = .ok (.ireturn, 1) := by decide +kernel
theorem dX5_read_0 : decode cX5_read 0 = .ok (.aload_n 0, 1) := by decide +kernel
theorem dX5_read_1 : decode cX5_read 1 = .ok (.iconst 0, 1) := by decide +kernel
theorem dX5_read_2 : decode cX5_read 2 = .ok (.putfield 120, 3) := by decide +kernel
theorem dX5_read_5 : decode cX5_read 5 = .ok (.aload_n 0, 1) := by decide +kernel
theorem dX5_read_6 : decode cX5_read 6 = .ok (.iconst 0, 1) := by decide +kernel
theorem dX5_read_7 : decode cX5_read 7 = .ok (.putfield 117, 3) := by decide +kernel
theorem dX5_read_10 : decode cX5_read 10 = .ok (.aload_n 0, 1) := by decide +kernel
theorem dX5_read_11 : decode cX5_read 11 = .ok (.iconst 0, 1) := by decide +kernel
theorem dX5_read_12 : decode cX5_read 12 = .ok (.putfield 108, 3) := by decide +kernel
theorem dX5_read_15 : decode cX5_read 15 = .ok (.iconst 0, 1) := by decide +kernel
theorem dX5_read_16 : decode cX5_read 16 = .ok (.istore_n 1, 1) := by decide +kernel
theorem dX5_read_17 : decode cX5_read 17 = .ok (.aload_n 0, 1) := by decide +kernel
theorem dX5_read_18 : decode cX5_read 18 = .ok (.getfield 117, 3) := by decide +kernel
theorem dX5_read_21 : decode cX5_read 21 = .ok (.iconst 4, 1) := by decide +kernel
theorem dX5_read_22 : decode cX5_read 22 = .ok (.if_icmp .ge 81, 3) := by decide +kernel
theorem dX5_read_25 : decode cX5_read 25 = .ok (.aload_n 0, 1) := by decide +kernel
theorem dX5_read_26 : decode cX5_read 26 = .ok (.iload_n 1, 1) := by decide +kernel
theorem dX5_read_27 : decode cX5_read 27 = .ok (.iconst 0, 1) := by decide +kernel
theorem dX5_read_28 : decode cX5_read 28 = .ok (.bipush 9, 2) := by decide +kernel
theorem dX5_read_30 : decode cX5_read 30 = .ok (.invokevirtual 114, 3) := by decide +kernel
theorem dX5_read_33 : decode cX5_read 33 = .ok (.ifCond .ne 5, 3) := by decide +kernel
theorem dX5_read_36 : decode cX5_read 36 = .ok (.iload_n 1, 1) := by decide +kernel
theorem dX5_read_37 : decode cX5_read 37 = .ok (.ireturn, 1) := by decide +kernel
theorem dX5_read_38 : decode cX5_read 38 = .ok (.aload_n 0, 1) := by decide +kernel
theorem dX5_read_39 : decode cX5_read 39 = .ok (.dup, 1) := by decide +kernel
theorem dX5_read_40 : decode cX5_read 40 = .ok (.getfield 117, 3) := by decide +kernel
theorem dX5_read_43 : decode cX5_read 43 = .ok (.iconst 1, 1) := by decide +kernel
theorem dX5_read_44 : decode cX5_read 44 = .ok (.iadd, 1) := by decide +kernel
theorem dX5_read_45 : decode cX5_read 45 = .ok (.putfield 117, 3) := by decide +kernel
theorem dX5_read_48 : decode cX5_read 48 = .ok (.iinc 1 1, 3) := by decide +kernel
theorem dX5_read_51 : decode cX5_read 51 = .ok (.aload_n 0, 1) := by decide +kernel
theorem dX5_read_52 : decode cX5_read 52 = .ok (.iload_n 1, 1) := by decide +kernel
theorem dX5_read_53 : decode cX5_read 53 = .ok (.invokevirtual 104, 3) := by decide +kernel
theorem dX5_read_56 : decode cX5_read 56 = .ok (.bipush 59, 2) := by decide +kernel
theorem dX5_read_58 : decode cX5_read 58 = .ok (.if_icmp .ne 19, 3) := by decide +kernel
theorem dX5_read_61 : decode cX5_read 61 = .ok (.aload_n 0, 1) := by decide +kernel
theorem dX5_read_62 : decode cX5_read 62 = .ok (.getfield 117, 3) := by decide +kernel
theorem dX5_read_65 : decode cX5_read 65 = .ok (.iconst 1, 1) := by decide +kernel
theorem dX5_read_66 : decode cX5_read 66 = .ok (.if_icmp .le 11, 3) := by decide +kernel
theorem dX5_read_69 : decode cX5_read 69 = .ok (.aload_n 0, 1) := by decide +kernel
theorem dX5_read_70 : decode cX5_read 70 = .ok (.iload_n 1, 1) := by decide +kernel
theorem dX5_read_71 : decode cX5_read 71 = .ok (.iconst 1, 1) := by decide +kernel
theorem dX5_read_72 : decode cX5_read 72 = .ok (.iadd, 1) := by decide +kernel
theorem dX5_read_73 : decode cX5_read 73 = .ok (.invokevirtual 124, 3) := by decide +kernel
theorem dX5_read_76 : decode cX5_read 76 = .ok (.ireturn, 1) := by decide +kernel
theorem dX5_read_77 : decode cX5_read 77 = .ok (.aload_n 0, 1) := by decide +kernel
theorem dX5_read_78 : decode cX5_read 78 = .ok (.getfield 117, 3) := by decide +kernel
theorem dX5_read_81 : decode cX5_read 81 = .ok (.iconst 4, 1) := by decide +kernel
theorem dX5_read_82 : decode cX5_read 82 = .ok (.if_icmp .eq 13, 3) := by decide +kernel
theorem dX5_read_85 : decode cX5_read 85 = .ok (.aload_n 0, 1) := by decide +kernel
theorem dX5_read_86 : decode cX5_read 86 = .ok (.iload_n 1, 1) := by decide +kernel
theorem dX5_read_87 : decode cX5_read 87 = .ok (.invokevirtual 104, 3) := by decide +kernel
theorem dX5_read_90 : decode cX5_read 90 = .ok (.bipush 44, 2) := by decide +kernel
theorem dX5_read_92 : decode cX5_read 92 = .ok (.if_icmp .eq 5, 3) := by decide +kernel
theorem dX5_read_95 : decode cX5_read 95 = .ok (.iload_n 1, 1) := by decide +kernel
theorem dX5_read_96 : decode cX5_read 96 = .ok (.ireturn, 1) := by decide +kernel
theorem dX5_read_97 : decode cX5_read 97 = .ok (.iinc 1 1, 3) := by decide +kernel
theorem dX5_read_100 : decode cX5_read 100 = .ok (.goto (-83), 3) := by decide +kernel
theorem dX5_read_103 : decode cX5_read 103 = .ok (.iload_n 1, 1) := by decide +kernel
theorem dX5_read_104 : decode cX5_read 104 = .ok (.ireturn, 1) := by decide +kernel
theorem dX5_fault_0 : decode cX5_fault 0 = .ok (.aload_n 0, 1) := by decide +kernel
theorem dX5_fault_1 : decode cX5_fault 1 = .ok (.invokevirtual 127, 3) := by decide +kernel
theorem dX5_fault_4 : decode cX5_fault 4 = .ok (.ireturn, 1) := by decide +kernel
theorem dX5_table_0 : decode cX5_table 0 = .ok (.aload_n 0, 1) := by decide +kernel
theorem dX5_table_1 : decode cX5_table 1 = .ok (.invokevirtual 127, 3) := by decide +kernel
theorem dX5_table_4 : decode cX5_table 4 = .ok (.pop, 1) := by decide +kernel
theorem dX5_table_5 : decode cX5_table 5 = .ok (.aload_n 0, 1) := by decide +kernel
theorem dX5_table_6 : decode cX5_table 6 = .ok (.getfield 120, 3) := by decide +kernel
theorem dX5_table_9 : decode cX5_table 9 = .ok (.ifCond .ne 6, 3) := by decide +kernel
theorem dX5_table_12 : decode cX5_table 12 = .ok (.bipush (-103), 2) := by decide +kernel
theorem dX5_table_14 : decode cX5_table 14 = .ok (.ireturn, 1) := by decide +kernel
theorem dX5_table_15 : decode cX5_table 15 = .ok (.aload_n 0, 1) := by decide +kernel
theorem dX5_table_16 : decode cX5_table 16 = .ok (.aload_n 0, 1) := by decide +kernel
theorem dX5_table_17 : decode cX5_table 17 = .ok (.getfield 117, 3) := by decide +kernel
theorem dX5_table_20 : decode cX5_table 20 = .ok (.putfield 131, 3) := by decide +kernel
theorem dX5_table_23 : decode cX5_table 23 = .ok (.aload_n 0, 1) := by decide +kernel
theorem dX5_table_24 : decode cX5_table 24 = .ok (.aload_n 0, 1) := by decide +kernel
theorem dX5_table_25 : decode cX5_table 25 = .ok (.getfield 108, 3) := by decide +kernel
theorem dX5_table_28 : decode cX5_table 28 = .ok (.putfield 134, 3) := by decide +kernel
theorem dX5_table_31 : decode cX5_table 31 = .ok (.iconst 0, 1) := by decide +kernel
theorem dX5_table_32 : decode cX5_table 32 = .ok (.istore_n 1, 1) := by decide +kernel
theorem dX5_table_33 : decode cX5_table 33 = .ok (.iload_n 1, 1) := by decide +kernel
theorem dX5_table_34 : decode cX5_table 34 = .ok (.aload_n 0, 1) := by decide +kernel
theorem dX5_table_35 : decode cX5_table 35 = .ok (.getfield 131, 3) := by decide +kernel
theorem dX5_table_38 : decode cX5_table 38 = .ok (.if_icmp .ge 26, 3) := by decide +kernel
theorem dX5_table_41 : decode cX5_table 41 = .ok (.aload_n 0, 1) := by decide +kernel
theorem dX5_table_42 : decode cX5_table 42 = .ok (.getfield 7, 3) := by decide +kernel
theorem dX5_table_45 : decode cX5_table 45 = .ok (.iload_n 1, 1) := by decide +kernel
theorem dX5_table_46 : decode cX5_table 46 = .ok (.aload_n 0, 1) := by decide +kernel
theorem dX5_table_47 : decode cX5_table 47 = .ok (.getfield 40, 3) := by decide +kernel
theorem dX5_table_50 : decode cX5_table 50 = .ok (.iconst 2, 1) := by decide +kernel
theorem dX5_table_51 : decode cX5_table 51 = .ok (.iload_n 1, 1) := by decide +kernel
theorem dX5_table_52 : decode cX5_table 52 = .ok (.imul, 1) := by decide +kernel
theorem dX5_table_53 : decode cX5_table 53 = .ok (.baload, 1) := by decide +kernel
theorem dX5_table_54 : decode cX5_table 54 = .ok (.bipush 48, 2) := by decide +kernel
theorem dX5_table_56 : decode cX5_table 56 = .ok (.isub, 1) := by decide +kernel
theorem dX5_table_57 : decode cX5_table 57 = .ok (.iastore, 1) := by decide +kernel
theorem dX5_table_58 : decode cX5_table 58 = .ok (.iinc 1 1, 3) := by decide +kernel
theorem dX5_table_61 : decode cX5_table 61 = .ok (.goto (-28), 3) := by decide +kernel
theorem dX5_table_64 : decode cX5_table 64 = .ok (.iconst 2, 1) := by decide +kernel
theorem dX5_table_65 : decode cX5_table 65 = .ok (.aload_n 0, 1) := by decide +kernel
theorem dX5_table_66 : decode cX5_table 66 = .ok (.getfield 131, 3) := by decide +kernel
theorem dX5_table_69 : decode cX5_table 69 = .ok (.imul, 1) := by decide +kernel
theorem dX5_table_70 : decode cX5_table 70 = .ok (.istore_n 1, 1) := by decide +kernel
theorem dX5_table_71 : decode cX5_table 71 = .ok (.iconst 0, 1) := by decide +kernel
theorem dX5_table_72 : decode cX5_table 72 = .ok (.istore_n 2, 1) := by decide +kernel
theorem dX5_table_73 : decode cX5_table 73 = .ok (.iload_n 2, 1) := by decide +kernel
theorem dX5_table_74 : decode cX5_table 74 = .ok (.aload_n 0, 1) := by decide +kernel
theorem dX5_table_75 : decode cX5_table 75 = .ok (.getfield 134, 3) := by decide +kernel
theorem dX5_table_78 : decode cX5_table 78 = .ok (.if_icmp .ge 98, 3) := by decide +kernel
theorem dX5_table_81 : decode cX5_table 81 = .ok (.aload_n 0, 1) := by decide +kernel
theorem dX5_table_82 : decode cX5_table 82 = .ok (.getfield 13, 3) := by decide +kernel
theorem dX5_table_85 : decode cX5_table 85 = .ok (.iload_n 2, 1) := by decide +kernel
theorem dX5_table_86 : decode cX5_table 86 = .ok (.aload_n 0, 1) := by decide +kernel
theorem dX5_table_87 : decode cX5_table 87 = .ok (.getfield 40, 3) := by decide +kernel
theorem dX5_table_90 : decode cX5_table 90 = .ok (.iload_n 1, 1) := by decide +kernel
theorem dX5_table_91 : decode cX5_table 91 = .ok (.iconst 5, 1) := by decide +kernel
theorem dX5_table_92 : decode cX5_table 92 = .ok (.iload_n 2, 1) := by decide +kernel
theorem dX5_table_93 : decode cX5_table 93 = .ok (.imul, 1) := by decide +kernel
theorem dX5_table_94 : decode cX5_table 94 = .ok (.iadd, 1) := by decide +kernel
theorem dX5_table_95 : decode cX5_table 95 = .ok (.baload, 1) := by decide +kernel
theorem dX5_table_96 : decode cX5_table 96 = .ok (.invokestatic 111, 3) := by decide +kernel
theorem dX5_table_99 : decode cX5_table 99 = .ok (.iastore, 1) := by decide +kernel
theorem dX5_table_100 : decode cX5_table 100 = .ok (.aload_n 0, 1) := by decide +kernel
theorem dX5_table_101 : decode cX5_table 101 = .ok (.getfield 16, 3) := by decide +kernel
theorem dX5_table_104 : decode cX5_table 104 = .ok (.iload_n 2, 1) := by decide +kernel
theorem dX5_table_105 : decode cX5_table 105 = .ok (.aload_n 0, 1) := by decide +kernel
theorem dX5_table_106 : decode cX5_table 106 = .ok (.getfield 40, 3) := by decide +kernel
theorem dX5_table_109 : decode cX5_table 109 = .ok (.iload_n 1, 1) := by decide +kernel
theorem dX5_table_110 : decode cX5_table 110 = .ok (.iconst 5, 1) := by decide +kernel
theorem dX5_table_111 : decode cX5_table 111 = .ok (.iload_n 2, 1) := by decide +kernel
theorem dX5_table_112 : decode cX5_table 112 = .ok (.imul, 1) := by decide +kernel
theorem dX5_table_113 : decode cX5_table 113 = .ok (.iadd, 1) := by decide +kernel
theorem dX5_table_114 : decode cX5_table 114 = .ok (.iconst 1, 1) := by decide +kernel
theorem dX5_table_115 : decode cX5_table 115 = .ok (.iadd, 1) := by decide +kernel
theorem dX5_table_116 : decode cX5_table 116 = .ok (.baload, 1) := by decide +kernel
theorem dX5_table_117 : decode cX5_table 117 = .ok (.bipush 48, 2) := by decide +kernel
theorem dX5_table_119 : decode cX5_table 119 = .ok (.isub, 1) := by decide +kernel
theorem dX5_table_120 : decode cX5_table 120 = .ok (.iastore, 1) := by decide +kernel
theorem dX5_table_121 : decode cX5_table 121 = .ok (.aload_n 0, 1) := by decide +kernel
theorem dX5_table_122 : decode cX5_table 122 = .ok (.getfield 19, 3) := by decide +kernel
theorem dX5_table_125 : decode cX5_table 125 = .ok (.iload_n 2, 1) := by decide +kernel
theorem dX5_table_126 : decode cX5_table 126 = .ok (.aload_n 0, 1) := by decide +kernel
theorem dX5_table_127 : decode cX5_table 127 = .ok (.getfield 40, 3) := by decide +kernel
theorem dX5_table_130 : decode cX5_table 130 = .ok (.iload_n 1, 1) := by decide +kernel
theorem dX5_table_131 : decode cX5_table 131 = .ok (.iconst 5, 1) := by decide +kernel
theorem dX5_table_132 : decode cX5_table 132 = .ok (.iload_n 2, 1) := by decide +kernel
theorem dX5_table_133 : decode cX5_table 133 = .ok (.imul, 1) := by decide +kernel
theorem dX5_table_134 : decode cX5_table 134 = .ok (.iadd, 1) := by decide +kernel
theorem dX5_table_135 : decode cX5_table 135 = .ok (.iconst 2, 1) := by decide +kernel
theorem dX5_table_136 : decode cX5_table 136 = .ok (.iadd, 1) := by decide +kernel
theorem dX5_table_137 : decode cX5_table 137 = .ok (.baload, 1) := by decide +kernel
theorem dX5_table_138 : decode cX5_table 138 = .ok (.bipush 48, 2) := by decide +kernel
theorem dX5_table_140 : decode cX5_table 140 = .ok (.isub, 1) := by decide +kernel
theorem dX5_table_141 : decode cX5_table 141 = .ok (.iastore, 1) := by decide +kernel
theorem dX5_table_142 : decode cX5_table 142 = .ok (.aload_n 0, 1) := by decide +kernel
theorem dX5_table_143 : decode cX5_table 143 = .ok (.getfield 22, 3) := by decide +kernel
theorem dX5_table_146 : decode cX5_table 146 = .ok (.iload_n 2, 1) := by decide +kernel
theorem dX5_table_147 : decode cX5_table 147 = .ok (.aload_n 0, 1) := by decide +kernel
theorem dX5_table_148 : decode cX5_table 148 = .ok (.getfield 40, 3) := by decide +kernel
theorem dX5_table_151 : decode cX5_table 151 = .ok (.iload_n 1, 1) := by decide +kernel
theorem dX5_table_152 : decode cX5_table 152 = .ok (.iconst 5, 1) := by decide +kernel
theorem dX5_table_153 : decode cX5_table 153 = .ok (.iload_n 2, 1) := by decide +kernel
theorem dX5_table_154 : decode cX5_table 154 = .ok (.imul, 1) := by decide +kernel
theorem dX5_table_155 : decode cX5_table 155 = .ok (.iadd, 1) := by decide +kernel
theorem dX5_table_156 : decode cX5_table 156 = .ok (.iconst 3, 1) := by decide +kernel
theorem dX5_table_157 : decode cX5_table 157 = .ok (.iadd, 1) := by decide +kernel
theorem dX5_table_158 : decode cX5_table 158 = .ok (.baload, 1) := by decide +kernel
theorem dX5_table_159 : decode cX5_table 159 = .ok (.bipush 48, 2) := by decide +kernel
theorem dX5_table_161 : decode cX5_table 161 = .ok (.isub, 1) := by decide +kernel
theorem dX5_table_162 : decode cX5_table 162 = .ok (.iastore, 1) := by decide +kernel
theorem dX5_table_163 : decode cX5_table 163 = .ok (.aload_n 0, 1) := by decide +kernel
theorem dX5_table_164 : decode cX5_table 164 = .ok (.getfield 25, 3) := by decide +kernel
theorem dX5_table_167 : decode cX5_table 167 = .ok (.iload_n 2, 1) := by decide +kernel
theorem dX5_table_168 : decode cX5_table 168 = .ok (.iconst 0, 1) := by decide +kernel
theorem dX5_table_169 : decode cX5_table 169 = .ok (.iastore, 1) := by decide +kernel
theorem dX5_table_170 : decode cX5_table 170 = .ok (.iinc 2 1, 3) := by decide +kernel
theorem dX5_table_173 : decode cX5_table 173 = .ok (.goto (-100), 3) := by decide +kernel
theorem dX5_table_176 : decode cX5_table 176 = .ok (.aload_n 0, 1) := by decide +kernel
theorem dX5_table_177 : decode cX5_table 177 = .ok (.iconst 0, 1) := by decide +kernel
theorem dX5_table_178 : decode cX5_table 178 = .ok (.putfield 137, 3) := by decide +kernel
theorem dX5_table_181 : decode cX5_table 181 = .ok (.aload_n 0, 1) := by decide +kernel
theorem dX5_table_182 : decode cX5_table 182 = .ok (.iconst 0, 1) := by decide +kernel
theorem dX5_table_183 : decode cX5_table 183 = .ok (.putfield 140, 3) := by decide +kernel
theorem dX5_table_186 : decode cX5_table 186 = .ok (.aload_n 0, 1) := by decide +kernel
theorem dX5_table_187 : decode cX5_table 187 = .ok (.iconst 0, 1) := by decide +kernel
theorem dX5_table_188 : decode cX5_table 188 = .ok (.putfield 143, 3) := by decide +kernel
theorem dX5_table_191 : decode cX5_table 191 = .ok (.aload_n 0, 1) := by decide +kernel
theorem dX5_table_192 : decode cX5_table 192 = .ok (.dup, 1) := by decide +kernel
theorem dX5_table_193 : decode cX5_table 193 = .ok (.getfield 146, 3) := by decide +kernel
theorem dX5_table_196 : decode cX5_table 196 = .ok (.iconst 1, 1) := by decide +kernel
theorem dX5_table_197 : decode cX5_table 197 = .ok (.iadd, 1) := by decide +kernel
theorem dX5_table_198 : decode cX5_table 198 = .ok (.putfield 146, 3) := by decide +kernel
theorem dX5_table_201 : decode cX5_table 201 = .ok (.aload_n 0, 1) := by decide +kernel
theorem dX5_table_202 : decode cX5_table 202 = .ok (.iconst 0, 1) := by decide +kernel
theorem dX5_table_203 : decode cX5_table 203 = .ok (.putfield 149, 3) := by decide +kernel
theorem dX5_table_206 : decode cX5_table 206 = .ok (.aload_n 0, 1) := by decide +kernel
theorem dX5_table_207 : decode cX5_table 207 = .ok (.iconst 0, 1) := by decide +kernel
theorem dX5_table_208 : decode cX5_table 208 = .ok (.putfield 100, 3) := by decide +kernel
theorem dX5_table_211 : decode cX5_table 211 = .ok (.aload_n 0, 1) := by decide +kernel
theorem dX5_table_212 : decode cX5_table 212 = .ok (.getfield 131, 3) := by decide +kernel
theorem dX5_table_215 : decode cX5_table 215 = .ok (.ireturn, 1) := by decide +kernel
theorem dX5_isVillage_0 : decode cX5_isVillage 0 = .ok (.iload_n 1, 1) := by decide +kernel
theorem dX5_isVillage_1 : decode cX5_isVillage 1 = .ok (.iconst 0, 1) := by decide +kernel
theorem dX5_isVillage_2 : decode cX5_isVillage 2 = .ok (.aload_n 0, 1) := by decide +kernel
theorem dX5_isVillage_3 : decode cX5_isVillage 3 = .ok (.getfield 131, 3) := by decide +kernel
theorem dX5_isVillage_6 : decode cX5_isVillage 6 = .ok (.iconst 1, 1) := by decide +kernel
theorem dX5_isVillage_7 : decode cX5_isVillage 7 = .ok (.isub, 1) := by decide +kernel
theorem dX5_isVillage_8 : decode cX5_isVillage 8 = .ok (.invokestatic 96, 3) := by decide +kernel
theorem dX5_isVillage_11 : decode cX5_isVillage 11 = .ok (.ireturn, 1) := by decide +kernel
theorem dX5_isWeight_0 : decode cX5_isWeight 0 = .ok (.iload_n 1, 1) := by decide +kernel
theorem dX5_isWeight_1 : decode cX5_isWeight 1 = .ok (.iconst 0, 1) := by decide +kernel
theorem dX5_isWeight_2 : decode cX5_isWeight 2 = .ok (.aload_n 0, 1) := by decide +kernel
theorem dX5_isWeight_3 : decode cX5_isWeight 3 = .ok (.getfield 134, 3) := by decide +kernel
theorem dX5_isWeight_6 : decode cX5_isWeight 6 = .ok (.iconst 1, 1) := by decide +kernel
theorem dX5_isWeight_7 : decode cX5_isWeight 7 = .ok (.isub, 1) := by decide +kernel
theorem dX5_isWeight_8 : decode cX5_isWeight 8 = .ok (.invokestatic 96, 3) := by decide +kernel
theorem dX5_isWeight_11 : decode cX5_isWeight 11 = .ok (.ireturn, 1) := by decide +kernel
theorem dX5_isWind_0 : decode cX5_isWind 0 = .ok (.iload_n 0, 1) := by decide +kernel
theorem dX5_isWind_1 : decode cX5_isWind 1 = .ok (.iconst 0, 1) := by decide +kernel
theorem dX5_isWind_2 : decode cX5_isWind 2 = .ok (.iconst 1, 1) := by decide +kernel
theorem dX5_isWind_3 : decode cX5_isWind 3 = .ok (.invokestatic 96, 3) := by decide +kernel
theorem dX5_isWind_6 : decode cX5_isWind 6 = .ok (.ifCond .eq 17, 3) := by decide +kernel
theorem dX5_isWind_9 : decode cX5_isWind 9 = .ok (.iload_n 1, 1) := by decide +kernel
theorem dX5_isWind_10 : decode cX5_isWind 10 = .ok (.iconst 0, 1) := by decide +kernel
theorem dX5_isWind_11 : decode cX5_isWind 11 = .ok (.bipush 99, 2) := by decide +kernel
theorem dX5_isWind_13 : decode cX5_isWind 13 = .ok (.invokestatic 96, 3) := by decide +kernel
theorem dX5_isWind_16 : decode cX5_isWind 16 = .ok (.ifCond .eq 7, 3) := by decide +kernel
theorem dX5_isWind_19 : decode cX5_isWind 19 = .ok (.iconst 1, 1) := by decide +kernel
theorem dX5_isWind_20 : decode cX5_isWind 20 = .ok (.goto 4, 3) := by decide +kernel
theorem dX5_isWind_23 : decode cX5_isWind 23 = .ok (.iconst 0, 1) := by decide +kernel
theorem dX5_isWind_24 : decode cX5_isWind 24 = .ok (.ireturn, 1) := by decide +kernel
theorem dX5_bears_0 : decode cX5_bears 0 = .ok (.aload_n 0, 1) := by decide +kernel
theorem dX5_bears_1 : decode cX5_bears 1 = .ok (.getfield 13, 3) := by decide +kernel
theorem dX5_bears_4 : decode cX5_bears 4 = .ok (.iload_n 1, 1) := by decide +kernel
theorem dX5_bears_5 : decode cX5_bears 5 = .ok (.iaload, 1) := by decide +kernel
theorem dX5_bears_6 : decode cX5_bears 6 = .ok (.tableswitch 56 1 4 #[30, 56, 39, 53], 30) := by decide +kernel
theorem dX5_bears_36 : decode cX5_bears 36 = .ok (.iconst 2, 1) := by decide +kernel
theorem dX5_bears_37 : decode cX5_bears 37 = .ok (.aload_n 0, 1) := by decide +kernel
theorem dX5_bears_38 : decode cX5_bears 38 = .ok (.getfield 16, 3) := by decide +kernel
theorem dX5_bears_41 : decode cX5_bears 41 = .ok (.iload_n 1, 1) := by decide +kernel
theorem dX5_bears_42 : decode cX5_bears 42 = .ok (.iaload, 1) := by decide +kernel
theorem dX5_bears_43 : decode cX5_bears 43 = .ok (.imul, 1) := by decide +kernel
theorem dX5_bears_44 : decode cX5_bears 44 = .ok (.ireturn, 1) := by decide +kernel
theorem dX5_bears_45 : decode cX5_bears 45 = .ok (.aload_n 0, 1) := by decide +kernel
theorem dX5_bears_46 : decode cX5_bears 46 = .ok (.getfield 16, 3) := by decide +kernel
theorem dX5_bears_49 : decode cX5_bears 49 = .ok (.iload_n 1, 1) := by decide +kernel
theorem dX5_bears_50 : decode cX5_bears 50 = .ok (.iaload, 1) := by decide +kernel
theorem dX5_bears_51 : decode cX5_bears 51 = .ok (.aload_n 0, 1) := by decide +kernel
theorem dX5_bears_52 : decode cX5_bears 52 = .ok (.getfield 25, 3) := by decide +kernel
theorem dX5_bears_55 : decode cX5_bears 55 = .ok (.iload_n 1, 1) := by decide +kernel
theorem dX5_bears_56 : decode cX5_bears 56 = .ok (.iaload, 1) := by decide +kernel
theorem dX5_bears_57 : decode cX5_bears 57 = .ok (.iadd, 1) := by decide +kernel
theorem dX5_bears_58 : decode cX5_bears 58 = .ok (.ireturn, 1) := by decide +kernel
theorem dX5_bears_59 : decode cX5_bears 59 = .ok (.bipush 100, 2) := by decide +kernel
theorem dX5_bears_61 : decode cX5_bears 61 = .ok (.ireturn, 1) := by decide +kernel
theorem dX5_bears_62 : decode cX5_bears 62 = .ok (.aload_n 0, 1) := by decide +kernel
theorem dX5_bears_63 : decode cX5_bears 63 = .ok (.getfield 16, 3) := by decide +kernel
theorem dX5_bears_66 : decode cX5_bears 66 = .ok (.iload_n 1, 1) := by decide +kernel
theorem dX5_bears_67 : decode cX5_bears 67 = .ok (.iaload, 1) := by decide +kernel
theorem dX5_bears_68 : decode cX5_bears 68 = .ok (.ireturn, 1) := by decide +kernel
theorem dX5_arm_0 : decode cX5_arm 0 = .ok (.iload_n 0, 1) := by decide +kernel
theorem dX5_arm_1 : decode cX5_arm 1 = .ok (.ifCond .ne 9, 3) := by decide +kernel
theorem dX5_arm_4 : decode cX5_arm 4 = .ok (.iconst 5, 1) := by decide +kernel
theorem dX5_arm_5 : decode cX5_arm 5 = .ok (.iload_n 1, 1) := by decide +kernel
theorem dX5_arm_6 : decode cX5_arm 6 = .ok (.isub, 1) := by decide +kernel
theorem dX5_arm_7 : decode cX5_arm 7 = .ok (.goto 6, 3) := by decide +kernel
theorem dX5_arm_10 : decode cX5_arm 10 = .ok (.iload_n 1, 1) := by decide +kernel
theorem dX5_arm_11 : decode cX5_arm 11 = .ok (.iconst 1, 1) := by decide +kernel
theorem dX5_arm_12 : decode cX5_arm 12 = .ok (.iadd, 1) := by decide +kernel
theorem dX5_arm_13 : decode cX5_arm 13 = .ok (.ireturn, 1) := by decide +kernel
theorem dX5_hold_0 : decode cX5_hold 0 = .ok (.iconst 3, 1) := by decide +kernel
theorem dX5_hold_1 : decode cX5_hold 1 = .ok (.aload_n 0, 1) := by decide +kernel
theorem dX5_hold_2 : decode cX5_hold 2 = .ok (.getfield 7, 3) := by decide +kernel
theorem dX5_hold_5 : decode cX5_hold 5 = .ok (.iload_n 1, 1) := by decide +kernel
theorem dX5_hold_6 : decode cX5_hold 6 = .ok (.iaload, 1) := by decide +kernel
theorem dX5_hold_7 : decode cX5_hold 7 = .ok (.imul, 1) := by decide +kernel
theorem dX5_hold_8 : decode cX5_hold 8 = .ok (.istore_n 3, 1) := by decide +kernel
theorem dX5_hold_9 : decode cX5_hold 9 = .ok (.iconst 0, 1) := by decide +kernel
theorem dX5_hold_10 : decode cX5_hold 10 = .ok (.istore 4, 2) := by decide +kernel
theorem dX5_hold_12 : decode cX5_hold 12 = .ok (.iload 4, 2) := by decide +kernel
theorem dX5_hold_14 : decode cX5_hold 14 = .ok (.aload_n 0, 1) := by decide +kernel
theorem dX5_hold_15 : decode cX5_hold 15 = .ok (.getfield 134, 3) := by decide +kernel
theorem dX5_hold_18 : decode cX5_hold 18 = .ok (.if_icmp .ge 45, 3) := by decide +kernel
theorem dX5_hold_21 : decode cX5_hold 21 = .ok (.iload_n 3, 1) := by decide +kernel
theorem dX5_hold_22 : decode cX5_hold 22 = .ok (.aload_n 0, 1) := by decide +kernel
theorem dX5_hold_23 : decode cX5_hold 23 = .ok (.getfield 19, 3) := by decide +kernel
theorem dX5_hold_26 : decode cX5_hold 26 = .ok (.iload 4, 2) := by decide +kernel
theorem dX5_hold_28 : decode cX5_hold 28 = .ok (.iaload, 1) := by decide +kernel
theorem dX5_hold_29 : decode cX5_hold 29 = .ok (.iload_n 1, 1) := by decide +kernel
theorem dX5_hold_30 : decode cX5_hold 30 = .ok (.if_icmp .ne 24, 3) := by decide +kernel
theorem dX5_hold_33 : decode cX5_hold 33 = .ok (.aload_n 0, 1) := by decide +kernel
theorem dX5_hold_34 : decode cX5_hold 34 = .ok (.iload 4, 2) := by decide +kernel
theorem dX5_hold_36 : decode cX5_hold 36 = .ok (.invokevirtual 152, 3) := by decide +kernel
theorem dX5_hold_39 : decode cX5_hold 39 = .ok (.iload_n 2, 1) := by decide +kernel
theorem dX5_hold_40 : decode cX5_hold 40 = .ok (.aload_n 0, 1) := by decide +kernel
theorem dX5_hold_41 : decode cX5_hold 41 = .ok (.getfield 22, 3) := by decide +kernel
theorem dX5_hold_44 : decode cX5_hold 44 = .ok (.iload 4, 2) := by decide +kernel
theorem dX5_hold_46 : decode cX5_hold 46 = .ok (.iaload, 1) := by decide +kernel
theorem dX5_hold_47 : decode cX5_hold 47 = .ok (.invokestatic 155, 3) := by decide +kernel
theorem dX5_hold_50 : decode cX5_hold 50 = .ok (.imul, 1) := by decide +kernel
theorem dX5_hold_51 : decode cX5_hold 51 = .ok (.goto 4, 3) := by decide +kernel
theorem dX5_hold_54 : decode cX5_hold 54 = .ok (.iconst 0, 1) := by decide +kernel
theorem dX5_hold_55 : decode cX5_hold 55 = .ok (.iadd, 1) := by decide +kernel
theorem dX5_hold_56 : decode cX5_hold 56 = .ok (.istore_n 3, 1) := by decide +kernel
theorem dX5_hold_57 : decode cX5_hold 57 = .ok (.iinc 4 1, 3) := by decide +kernel
theorem dX5_hold_60 : decode cX5_hold 60 = .ok (.goto (-48), 3) := by decide +kernel
theorem dX5_hold_63 : decode cX5_hold 63 = .ok (.iload_n 3, 1) := by decide +kernel
theorem dX5_hold_64 : decode cX5_hold 64 = .ok (.ireturn, 1) := by decide +kernel
theorem dX5_standBy_0 : decode cX5_standBy 0 = .ok (.iload_n 0, 1) := by decide +kernel
theorem dX5_standBy_1 : decode cX5_standBy 1 = .ok (.iconst 5, 1) := by decide +kernel
theorem dX5_standBy_2 : decode cX5_standBy 2 = .ok (.idiv, 1) := by decide +kernel
theorem dX5_standBy_3 : decode cX5_standBy 3 = .ok (.bipush 99, 2) := by decide +kernel
theorem dX5_standBy_5 : decode cX5_standBy 5 = .ok (.if_icmp .le 8, 3) := by decide +kernel
theorem dX5_standBy_8 : decode cX5_standBy 8 = .ok (.bipush 99, 2) := by decide +kernel
theorem dX5_standBy_10 : decode cX5_standBy 10 = .ok (.goto 6, 3) := by decide +kernel
theorem dX5_standBy_13 : decode cX5_standBy 13 = .ok (.iload_n 0, 1) := by decide +kernel
theorem dX5_standBy_14 : decode cX5_standBy 14 = .ok (.iconst 5, 1) := by decide +kernel
theorem dX5_standBy_15 : decode cX5_standBy 15 = .ok (.idiv, 1) := by decide +kernel
theorem dX5_standBy_16 : decode cX5_standBy 16 = .ok (.ireturn, 1) := by decide +kernel
theorem dX5_stand_0 : decode cX5_stand 0 = .ok (.aload_n 0, 1) := by decide +kernel
theorem dX5_stand_1 : decode cX5_stand 1 = .ok (.iload_n 1, 1) := by decide +kernel
theorem dX5_stand_2 : decode cX5_stand 2 = .ok (.iload_n 2, 1) := by decide +kernel
theorem dX5_stand_3 : decode cX5_stand 3 = .ok (.invokevirtual 159, 3) := by decide +kernel
theorem dX5_stand_6 : decode cX5_stand 6 = .ok (.invokestatic 162, 3) := by decide +kernel
theorem dX5_stand_9 : decode cX5_stand 9 = .ok (.ireturn, 1) := by decide +kernel
theorem dX5_leastOf_0 : decode cX5_leastOf 0 = .ok (.aload_n 0, 1) := by decide +kernel
theorem dX5_leastOf_1 : decode cX5_leastOf 1 = .ok (.iload_n 1, 1) := by decide +kernel
theorem dX5_leastOf_2 : decode cX5_leastOf 2 = .ok (.iconst 0, 1) := by decide +kernel
theorem dX5_leastOf_3 : decode cX5_leastOf 3 = .ok (.invokevirtual 165, 3) := by decide +kernel
theorem dX5_leastOf_6 : decode cX5_leastOf 6 = .ok (.istore_n 2, 1) := by decide +kernel
theorem dX5_leastOf_7 : decode cX5_leastOf 7 = .ok (.aload_n 0, 1) := by decide +kernel
theorem dX5_leastOf_8 : decode cX5_leastOf 8 = .ok (.iload_n 1, 1) := by decide +kernel
theorem dX5_leastOf_9 : decode cX5_leastOf 9 = .ok (.iconst 1, 1) := by decide +kernel
theorem dX5_leastOf_10 : decode cX5_leastOf 10 = .ok (.invokevirtual 165, 3) := by decide +kernel
theorem dX5_leastOf_13 : decode cX5_leastOf 13 = .ok (.istore_n 3, 1) := by decide +kernel
theorem dX5_leastOf_14 : decode cX5_leastOf 14 = .ok (.iload_n 2, 1) := by decide +kernel
theorem dX5_leastOf_15 : decode cX5_leastOf 15 = .ok (.iload_n 3, 1) := by decide +kernel
theorem dX5_leastOf_16 : decode cX5_leastOf 16 = .ok (.if_icmp .ge 7, 3) := by decide +kernel
theorem dX5_leastOf_19 : decode cX5_leastOf 19 = .ok (.iload_n 2, 1) := by decide +kernel
theorem dX5_leastOf_20 : decode cX5_leastOf 20 = .ok (.goto 4, 3) := by decide +kernel
theorem dX5_leastOf_23 : decode cX5_leastOf 23 = .ok (.iload_n 3, 1) := by decide +kernel
theorem dX5_leastOf_24 : decode cX5_leastOf 24 = .ok (.ireturn, 1) := by decide +kernel
theorem dX5_leastOfAll_0 : decode cX5_leastOfAll 0 = .ok (.ldc 168, 2) := by decide +kernel
theorem dX5_leastOfAll_2 : decode cX5_leastOfAll 2 = .ok (.istore_n 1, 1) := by decide +kernel
theorem dX5_leastOfAll_3 : decode cX5_leastOfAll 3 = .ok (.iconst 0, 1) := by decide +kernel
theorem dX5_leastOfAll_4 : decode cX5_leastOfAll 4 = .ok (.istore_n 2, 1) := by decide +kernel
theorem dX5_leastOfAll_5 : decode cX5_leastOfAll 5 = .ok (.iload_n 2, 1) := by decide +kernel
theorem dX5_leastOfAll_6 : decode cX5_leastOfAll 6 = .ok (.aload_n 0, 1) := by decide +kernel
theorem dX5_leastOfAll_7 : decode cX5_leastOfAll 7 = .ok (.getfield 131, 3) := by decide +kernel
theorem dX5_leastOfAll_10 : decode cX5_leastOfAll 10 = .ok (.if_icmp .ge 28, 3) := by decide +kernel
theorem dX5_leastOfAll_13 : decode cX5_leastOfAll 13 = .ok (.aload_n 0, 1) := by decide +kernel
theorem dX5_leastOfAll_14 : decode cX5_leastOfAll 14 = .ok (.iload_n 2, 1) := by decide +kernel
theorem dX5_leastOfAll_15 : decode cX5_leastOfAll 15 = .ok (.invokevirtual 169, 3) := by decide +kernel
theorem dX5_leastOfAll_18 : decode cX5_leastOfAll 18 = .ok (.iload_n 1, 1) := by decide +kernel
theorem dX5_leastOfAll_19 : decode cX5_leastOfAll 19 = .ok (.if_icmp .ge 11, 3) := by decide +kernel
theorem dX5_leastOfAll_22 : decode cX5_leastOfAll 22 = .ok (.aload_n 0, 1) := by decide +kernel
theorem dX5_leastOfAll_23 : decode cX5_leastOfAll 23 = .ok (.iload_n 2, 1) := by decide +kernel
theorem dX5_leastOfAll_24 : decode cX5_leastOfAll 24 = .ok (.invokevirtual 169, 3) := by decide +kernel
theorem dX5_leastOfAll_27 : decode cX5_leastOfAll 27 = .ok (.goto 4, 3) := by decide +kernel
theorem dX5_leastOfAll_30 : decode cX5_leastOfAll 30 = .ok (.iload_n 1, 1) := by decide +kernel
theorem dX5_leastOfAll_31 : decode cX5_leastOfAll 31 = .ok (.istore_n 1, 1) := by decide +kernel
theorem dX5_leastOfAll_32 : decode cX5_leastOfAll 32 = .ok (.iinc 2 1, 3) := by decide +kernel
theorem dX5_leastOfAll_35 : decode cX5_leastOfAll 35 = .ok (.goto (-30), 3) := by decide +kernel
theorem dX5_leastOfAll_38 : decode cX5_leastOfAll 38 = .ok (.aload_n 0, 1) := by decide +kernel
theorem dX5_leastOfAll_39 : decode cX5_leastOfAll 39 = .ok (.getfield 131, 3) := by decide +kernel
theorem dX5_leastOfAll_42 : decode cX5_leastOfAll 42 = .ok (.ifCond .ne 7, 3) := by decide +kernel
theorem dX5_leastOfAll_45 : decode cX5_leastOfAll 45 = .ok (.iconst 0, 1) := by decide +kernel
theorem dX5_leastOfAll_46 : decode cX5_leastOfAll 46 = .ok (.goto 4, 3) := by decide +kernel
theorem dX5_leastOfAll_49 : decode cX5_leastOfAll 49 = .ok (.iload_n 1, 1) := by decide +kernel
theorem dX5_leastOfAll_50 : decode cX5_leastOfAll 50 = .ok (.ireturn, 1) := by decide +kernel
theorem dX5_wouldLift_0 : decode cX5_wouldLift 0 = .ok (.aload_n 0, 1) := by decide +kernel
