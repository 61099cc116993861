theorem dX10_wordHere_0 : decode cX10_wordHere 0 = .ok (.iconst 0, 1) := by decide +kernel
theorem dX10_wordHere_1 : decode cX10_wordHere 1 = .ok (.istore_n 1, 1) := by decide +kernel
theorem dX10_wordHere_2 : decode cX10_wordHere 2 = .ok (.iconst 0, 1) := by decide +kernel
theorem dX10_wordHere_3 : decode cX10_wordHere 3 = .ok (.istore_n 2, 1) := by decide +kernel
theorem dX10_wordHere_4 : decode cX10_wordHere 4 = .ok (.iload_n 2, 1) := by decide +kernel
theorem dX10_wordHere_5 : decode cX10_wordHere 5 = .ok (.ldc 81, 2) := by decide +kernel
theorem dX10_wordHere_7 : decode cX10_wordHere 7 = .ok (.invokevirtual 83, 3) := by decide +kernel
theorem dX10_wordHere_10 : decode cX10_wordHere 10 = .ok (.if_icmp .ge 113, 3) := by decide +kernel
theorem dX10_wordHere_13 : decode cX10_wordHere 13 = .ok (.iconst 0, 1) := by decide +kernel
theorem dX10_wordHere_14 : decode cX10_wordHere 14 = .ok (.istore_n 3, 1) := by decide +kernel
theorem dX10_wordHere_15 : decode cX10_wordHere 15 = .ok (.ldc 81, 2) := by decide +kernel
theorem dX10_wordHere_17 : decode cX10_wordHere 17 = .ok (.iload_n 2, 1) := by decide +kernel
theorem dX10_wordHere_18 : decode cX10_wordHere 18 = .ok (.iload_n 3, 1) := by decide +kernel
theorem dX10_wordHere_19 : decode cX10_wordHere 19 = .ok (.iadd, 1) := by decide +kernel
theorem dX10_wordHere_20 : decode cX10_wordHere 20 = .ok (.invokevirtual 88, 3) := by decide +kernel
theorem dX10_wordHere_23 : decode cX10_wordHere 23 = .ok (.bipush 32, 2) := by decide +kernel
theorem dX10_wordHere_25 : decode cX10_wordHere 25 = .ok (.if_icmp .eq 44, 3) := by decide +kernel
theorem dX10_wordHere_28 : decode cX10_wordHere 28 = .ok (.aload_n 0, 1) := by decide +kernel
theorem dX10_wordHere_29 : decode cX10_wordHere 29 = .ok (.getfield 61, 3) := by decide +kernel
theorem dX10_wordHere_32 : decode cX10_wordHere 32 = .ok (.iload_n 3, 1) := by decide +kernel
theorem dX10_wordHere_33 : decode cX10_wordHere 33 = .ok (.iadd, 1) := by decide +kernel
theorem dX10_wordHere_34 : decode cX10_wordHere 34 = .ok (.aload_n 0, 1) := by decide +kernel
theorem dX10_wordHere_35 : decode cX10_wordHere 35 = .ok (.getfield 51, 3) := by decide +kernel
theorem dX10_wordHere_38 : decode cX10_wordHere 38 = .ok (.if_icmp .ge 31, 3) := by decide +kernel
theorem dX10_wordHere_41 : decode cX10_wordHere 41 = .ok (.aload_n 0, 1) := by decide +kernel
theorem dX10_wordHere_42 : decode cX10_wordHere 42 = .ok (.getfield 7, 3) := by decide +kernel
theorem dX10_wordHere_45 : decode cX10_wordHere 45 = .ok (.aload_n 0, 1) := by decide +kernel
theorem dX10_wordHere_46 : decode cX10_wordHere 46 = .ok (.getfield 61, 3) := by decide +kernel
theorem dX10_wordHere_49 : decode cX10_wordHere 49 = .ok (.iload_n 3, 1) := by decide +kernel
theorem dX10_wordHere_50 : decode cX10_wordHere 50 = .ok (.iadd, 1) := by decide +kernel
theorem dX10_wordHere_51 : decode cX10_wordHere 51 = .ok (.iaload, 1) := by decide +kernel
theorem dX10_wordHere_52 : decode cX10_wordHere 52 = .ok (.ldc 81, 2) := by decide +kernel
theorem dX10_wordHere_54 : decode cX10_wordHere 54 = .ok (.iload_n 2, 1) := by decide +kernel
theorem dX10_wordHere_55 : decode cX10_wordHere 55 = .ok (.iload_n 3, 1) := by decide +kernel
theorem dX10_wordHere_56 : decode cX10_wordHere 56 = .ok (.iadd, 1) := by decide +kernel
theorem dX10_wordHere_57 : decode cX10_wordHere 57 = .ok (.invokevirtual 88, 3) := by decide +kernel
theorem dX10_wordHere_60 : decode cX10_wordHere 60 = .ok (.if_icmp .ne 9, 3) := by decide +kernel
theorem dX10_wordHere_63 : decode cX10_wordHere 63 = .ok (.iinc 3 1, 3) := by decide +kernel
theorem dX10_wordHere_66 : decode cX10_wordHere 66 = .ok (.goto (-51), 3) := by decide +kernel
theorem dX10_wordHere_69 : decode cX10_wordHere 69 = .ok (.ldc 81, 2) := by decide +kernel
theorem dX10_wordHere_71 : decode cX10_wordHere 71 = .ok (.iload_n 2, 1) := by decide +kernel
theorem dX10_wordHere_72 : decode cX10_wordHere 72 = .ok (.iload_n 3, 1) := by decide +kernel
theorem dX10_wordHere_73 : decode cX10_wordHere 73 = .ok (.iadd, 1) := by decide +kernel
theorem dX10_wordHere_74 : decode cX10_wordHere 74 = .ok (.invokevirtual 88, 3) := by decide +kernel
theorem dX10_wordHere_77 : decode cX10_wordHere 77 = .ok (.bipush 32, 2) := by decide +kernel
theorem dX10_wordHere_79 : decode cX10_wordHere 79 = .ok (.if_icmp .ne 18, 3) := by decide +kernel
theorem dX10_wordHere_82 : decode cX10_wordHere 82 = .ok (.aload_n 0, 1) := by decide +kernel
theorem dX10_wordHere_83 : decode cX10_wordHere 83 = .ok (.getfield 61, 3) := by decide +kernel
theorem dX10_wordHere_86 : decode cX10_wordHere 86 = .ok (.iload_n 3, 1) := by decide +kernel
theorem dX10_wordHere_87 : decode cX10_wordHere 87 = .ok (.iadd, 1) := by decide +kernel
theorem dX10_wordHere_88 : decode cX10_wordHere 88 = .ok (.aload_n 0, 1) := by decide +kernel
theorem dX10_wordHere_89 : decode cX10_wordHere 89 = .ok (.getfield 51, 3) := by decide +kernel
theorem dX10_wordHere_92 : decode cX10_wordHere 92 = .ok (.if_icmp .ne 5, 3) := by decide +kernel
theorem dX10_wordHere_95 : decode cX10_wordHere 95 = .ok (.iload_n 1, 1) := by decide +kernel
theorem dX10_wordHere_96 : decode cX10_wordHere 96 = .ok (.ireturn, 1) := by decide +kernel
theorem dX10_wordHere_97 : decode cX10_wordHere 97 = .ok (.ldc 81, 2) := by decide +kernel
theorem dX10_wordHere_99 : decode cX10_wordHere 99 = .ok (.iload_n 2, 1) := by decide +kernel
theorem dX10_wordHere_100 : decode cX10_wordHere 100 = .ok (.invokevirtual 88, 3) := by decide +kernel
theorem dX10_wordHere_103 : decode cX10_wordHere 103 = .ok (.bipush 32, 2) := by decide +kernel
theorem dX10_wordHere_105 : decode cX10_wordHere 105 = .ok (.if_icmp .eq 9, 3) := by decide +kernel
theorem dX10_wordHere_108 : decode cX10_wordHere 108 = .ok (.iinc 2 1, 3) := by decide +kernel
theorem dX10_wordHere_111 : decode cX10_wordHere 111 = .ok (.goto (-14), 3) := by decide +kernel
theorem dX10_wordHere_114 : decode cX10_wordHere 114 = .ok (.iinc 2 1, 3) := by decide +kernel
theorem dX10_wordHere_117 : decode cX10_wordHere 117 = .ok (.iinc 1 1, 3) := by decide +kernel
theorem dX10_wordHere_120 : decode cX10_wordHere 120 = .ok (.goto (-116), 3) := by decide +kernel
theorem dX10_wordHere_123 : decode cX10_wordHere 123 = .ok (.iconst (-1), 1) := by decide +kernel
theorem dX10_wordHere_124 : decode cX10_wordHere 124 = .ok (.ireturn, 1) := by decide +kernel
theorem dX10_token_0 : decode cX10_token 0 = .ok (.aload_n 0, 1) := by decide +kernel
theorem dX10_token_1 : decode cX10_token 1 = .ok (.invokevirtual 57, 3) := by decide +kernel
theorem dX10_token_4 : decode cX10_token 4 = .ok (.bipush 10, 2) := by decide +kernel
theorem dX10_token_6 : decode cX10_token 6 = .ok (.if_icmp .eq 12, 3) := by decide +kernel
theorem dX10_token_9 : decode cX10_token 9 = .ok (.aload_n 0, 1) := by decide +kernel
theorem dX10_token_10 : decode cX10_token 10 = .ok (.invokevirtual 57, 3) := by decide +kernel
theorem dX10_token_13 : decode cX10_token 13 = .ok (.bipush 32, 2) := by decide +kernel
theorem dX10_token_15 : decode cX10_token 15 = .ok (.if_icmp .ne 16, 3) := by decide +kernel
theorem dX10_token_18 : decode cX10_token 18 = .ok (.aload_n 0, 1) := by decide +kernel
theorem dX10_token_19 : decode cX10_token 19 = .ok (.dup, 1) := by decide +kernel
theorem dX10_token_20 : decode cX10_token 20 = .ok (.getfield 51, 3) := by decide +kernel
theorem dX10_token_23 : decode cX10_token 23 = .ok (.iconst 1, 1) := by decide +kernel
theorem dX10_token_24 : decode cX10_token 24 = .ok (.iadd, 1) := by decide +kernel
theorem dX10_token_25 : decode cX10_token 25 = .ok (.putfield 51, 3) := by decide +kernel
theorem dX10_token_28 : decode cX10_token 28 = .ok (.goto (-28), 3) := by decide +kernel
theorem dX10_token_31 : decode cX10_token 31 = .ok (.aload_n 0, 1) := by decide +kernel
theorem dX10_token_32 : decode cX10_token 32 = .ok (.aload_n 0, 1) := by decide +kernel
theorem dX10_token_33 : decode cX10_token 33 = .ok (.getfield 51, 3) := by decide +kernel
theorem dX10_token_36 : decode cX10_token 36 = .ok (.putfield 61, 3) := by decide +kernel
theorem dX10_token_39 : decode cX10_token 39 = .ok (.aload_n 0, 1) := by decide +kernel
theorem dX10_token_40 : decode cX10_token 40 = .ok (.invokevirtual 57, 3) := by decide +kernel
theorem dX10_token_43 : decode cX10_token 43 = .ok (.istore_n 1, 1) := by decide +kernel
theorem dX10_token_44 : decode cX10_token 44 = .ok (.iload_n 1, 1) := by decide +kernel
theorem dX10_token_45 : decode cX10_token 45 = .ok (.iconst (-1), 1) := by decide +kernel
theorem dX10_token_46 : decode cX10_token 46 = .ok (.if_icmp .ne 11, 3) := by decide +kernel
theorem dX10_token_49 : decode cX10_token 49 = .ok (.aload_n 0, 1) := by decide +kernel
theorem dX10_token_50 : decode cX10_token 50 = .ok (.iconst 3, 1) := by decide +kernel
theorem dX10_token_51 : decode cX10_token 51 = .ok (.putfield 64, 3) := by decide +kernel
theorem dX10_token_54 : decode cX10_token 54 = .ok (.goto 161, 3) := by decide +kernel
theorem dX10_token_57 : decode cX10_token 57 = .ok (.iload_n 1, 1) := by decide +kernel
theorem dX10_token_58 : decode cX10_token 58 = .ok (.invokestatic 67, 3) := by decide +kernel
theorem dX10_token_61 : decode cX10_token 61 = .ok (.ifCond .eq 54, 3) := by decide +kernel
theorem dX10_token_64 : decode cX10_token 64 = .ok (.aload_n 0, 1) := by decide +kernel
theorem dX10_token_65 : decode cX10_token 65 = .ok (.invokevirtual 57, 3) := by decide +kernel
theorem dX10_token_68 : decode cX10_token 68 = .ok (.invokestatic 67, 3) := by decide +kernel
theorem dX10_token_71 : decode cX10_token 71 = .ok (.ifCond .eq 16, 3) := by decide +kernel
theorem dX10_token_74 : decode cX10_token 74 = .ok (.aload_n 0, 1) := by decide +kernel
theorem dX10_token_75 : decode cX10_token 75 = .ok (.dup, 1) := by decide +kernel
theorem dX10_token_76 : decode cX10_token 76 = .ok (.getfield 51, 3) := by decide +kernel
theorem dX10_token_79 : decode cX10_token 79 = .ok (.iconst 1, 1) := by decide +kernel
theorem dX10_token_80 : decode cX10_token 80 = .ok (.iadd, 1) := by decide +kernel
theorem dX10_token_81 : decode cX10_token 81 = .ok (.putfield 51, 3) := by decide +kernel
theorem dX10_token_84 : decode cX10_token 84 = .ok (.goto (-20), 3) := by decide +kernel
theorem dX10_token_87 : decode cX10_token 87 = .ok (.aload_n 0, 1) := by decide +kernel
theorem dX10_token_88 : decode cX10_token 88 = .ok (.aload_n 0, 1) := by decide +kernel
theorem dX10_token_89 : decode cX10_token 89 = .ok (.invokevirtual 71, 3) := by decide +kernel
theorem dX10_token_92 : decode cX10_token 92 = .ok (.putfield 74, 3) := by decide +kernel
theorem dX10_token_95 : decode cX10_token 95 = .ok (.aload_n 0, 1) := by decide +kernel
theorem dX10_token_96 : decode cX10_token 96 = .ok (.aload_n 0, 1) := by decide +kernel
theorem dX10_token_97 : decode cX10_token 97 = .ok (.getfield 74, 3) := by decide +kernel
theorem dX10_token_100 : decode cX10_token 100 = .ok (.iconst (-1), 1) := by decide +kernel
theorem dX10_token_101 : decode cX10_token 101 = .ok (.if_icmp .eq 7, 3) := by decide +kernel
theorem dX10_token_104 : decode cX10_token 104 = .ok (.iconst 0, 1) := by decide +kernel
theorem dX10_token_105 : decode cX10_token 105 = .ok (.goto 4, 3) := by decide +kernel
theorem dX10_token_108 : decode cX10_token 108 = .ok (.iconst 4, 1) := by decide +kernel
theorem dX10_token_109 : decode cX10_token 109 = .ok (.putfield 64, 3) := by decide +kernel
theorem dX10_token_112 : decode cX10_token 112 = .ok (.goto 103, 3) := by decide +kernel
theorem dX10_token_115 : decode cX10_token 115 = .ok (.iload_n 1, 1) := by decide +kernel
theorem dX10_token_116 : decode cX10_token 116 = .ok (.invokestatic 77, 3) := by decide +kernel
theorem dX10_token_119 : decode cX10_token 119 = .ok (.ifCond .eq 71, 3) := by decide +kernel
theorem dX10_token_122 : decode cX10_token 122 = .ok (.aload_n 0, 1) := by decide +kernel
theorem dX10_token_123 : decode cX10_token 123 = .ok (.iconst 1, 1) := by decide +kernel
theorem dX10_token_124 : decode cX10_token 124 = .ok (.putfield 64, 3) := by decide +kernel
theorem dX10_token_127 : decode cX10_token 127 = .ok (.aload_n 0, 1) := by decide +kernel
theorem dX10_token_128 : decode cX10_token 128 = .ok (.iconst 0, 1) := by decide +kernel
theorem dX10_token_129 : decode cX10_token 129 = .ok (.putfield 74, 3) := by decide +kernel
theorem dX10_token_132 : decode cX10_token 132 = .ok (.aload_n 0, 1) := by decide +kernel
theorem dX10_token_133 : decode cX10_token 133 = .ok (.invokevirtual 57, 3) := by decide +kernel
theorem dX10_token_136 : decode cX10_token 136 = .ok (.invokestatic 77, 3) := by decide +kernel
theorem dX10_token_139 : decode cX10_token 139 = .ok (.ifCond .eq 76, 3) := by decide +kernel
theorem dX10_token_142 : decode cX10_token 142 = .ok (.aload_n 0, 1) := by decide +kernel
theorem dX10_token_143 : decode cX10_token 143 = .ok (.aload_n 0, 1) := by decide +kernel
theorem dX10_token_144 : decode cX10_token 144 = .ok (.getfield 74, 3) := by decide +kernel
theorem dX10_token_147 : decode cX10_token 147 = .ok (.ldc 80, 2) := by decide +kernel
theorem dX10_token_149 : decode cX10_token 149 = .ok (.if_icmp .le 10, 3) := by decide +kernel
theorem dX10_token_152 : decode cX10_token 152 = .ok (.aload_n 0, 1) := by decide +kernel
theorem dX10_token_153 : decode cX10_token 153 = .ok (.getfield 74, 3) := by decide +kernel
theorem dX10_token_156 : decode cX10_token 156 = .ok (.goto 18, 3) := by decide +kernel
theorem dX10_token_159 : decode cX10_token 159 = .ok (.bipush 10, 2) := by decide +kernel
theorem dX10_token_161 : decode cX10_token 161 = .ok (.aload_n 0, 1) := by decide +kernel
theorem dX10_token_162 : decode cX10_token 162 = .ok (.getfield 74, 3) := by decide +kernel
theorem dX10_token_165 : decode cX10_token 165 = .ok (.imul, 1) := by decide +kernel
theorem dX10_token_166 : decode cX10_token 166 = .ok (.aload_n 0, 1) := by decide +kernel
theorem dX10_token_167 : decode cX10_token 167 = .ok (.invokevirtual 57, 3) := by decide +kernel
theorem dX10_token_170 : decode cX10_token 170 = .ok (.iadd, 1) := by decide +kernel
theorem dX10_token_171 : decode cX10_token 171 = .ok (.bipush 48, 2) := by decide +kernel
theorem dX10_token_173 : decode cX10_token 173 = .ok (.isub, 1) := by decide +kernel
theorem dX10_token_174 : decode cX10_token 174 = .ok (.putfield 74, 3) := by decide +kernel
theorem dX10_token_177 : decode cX10_token 177 = .ok (.aload_n 0, 1) := by decide +kernel
theorem dX10_token_178 : decode cX10_token 178 = .ok (.dup, 1) := by decide +kernel
theorem dX10_token_179 : decode cX10_token 179 = .ok (.getfield 51, 3) := by decide +kernel
theorem dX10_token_182 : decode cX10_token 182 = .ok (.iconst 1, 1) := by decide +kernel
theorem dX10_token_183 : decode cX10_token 183 = .ok (.iadd, 1) := by decide +kernel
theorem dX10_token_184 : decode cX10_token 184 = .ok (.putfield 51, 3) := by decide +kernel
theorem dX10_token_187 : decode cX10_token 187 = .ok (.goto (-55), 3) := by decide +kernel
theorem dX10_token_190 : decode cX10_token 190 = .ok (.aload_n 0, 1) := by decide +kernel
theorem dX10_token_191 : decode cX10_token 191 = .ok (.iload_n 1, 1) := by decide +kernel
theorem dX10_token_192 : decode cX10_token 192 = .ok (.bipush 59, 2) := by decide +kernel
theorem dX10_token_194 : decode cX10_token 194 = .ok (.if_icmp .ne 7, 3) := by decide +kernel
theorem dX10_token_197 : decode cX10_token 197 = .ok (.iconst 2, 1) := by decide +kernel
theorem dX10_token_198 : decode cX10_token 198 = .ok (.goto 4, 3) := by decide +kernel
theorem dX10_token_201 : decode cX10_token 201 = .ok (.iconst 4, 1) := by decide +kernel
theorem dX10_token_202 : decode cX10_token 202 = .ok (.putfield 64, 3) := by decide +kernel
theorem dX10_token_205 : decode cX10_token 205 = .ok (.aload_n 0, 1) := by decide +kernel
theorem dX10_token_206 : decode cX10_token 206 = .ok (.dup, 1) := by decide +kernel
theorem dX10_token_207 : decode cX10_token 207 = .ok (.getfield 51, 3) := by decide +kernel
theorem dX10_token_210 : decode cX10_token 210 = .ok (.iconst 1, 1) := by decide +kernel
theorem dX10_token_211 : decode cX10_token 211 = .ok (.iadd, 1) := by decide +kernel
theorem dX10_token_212 : decode cX10_token 212 = .ok (.putfield 51, 3) := by decide +kernel
theorem dX10_token_215 : decode cX10_token 215 = .ok (.return_, 1) := by decide +kernel
theorem dX10_goOn_0 : decode cX10_goOn 0 = .ok (.aload_n 0, 1) := by decide +kernel
theorem dX10_goOn_1 : decode cX10_goOn 1 = .ok (.getfield 92, 3) := by decide +kernel
theorem dX10_goOn_4 : decode cX10_goOn 4 = .ok (.ifCond .ne 7, 3) := by decide +kernel
theorem dX10_goOn_7 : decode cX10_goOn 7 = .ok (.aload_n 0, 1) := by decide +kernel
theorem dX10_goOn_8 : decode cX10_goOn 8 = .ok (.invokevirtual 98, 3) := by decide +kernel
theorem dX10_goOn_11 : decode cX10_goOn 11 = .ok (.return_, 1) := by decide +kernel
theorem dX10_numeral_0 : decode cX10_numeral 0 = .ok (.aload_n 0, 1) := by decide +kernel
theorem dX10_numeral_1 : decode cX10_numeral 1 = .ok (.getfield 92, 3) := by decide +kernel
theorem dX10_numeral_4 : decode cX10_numeral 4 = .ok (.ifCond .eq 5, 3) := by decide +kernel
theorem dX10_numeral_7 : decode cX10_numeral 7 = .ok (.iload_n 1, 1) := by decide +kernel
theorem dX10_numeral_8 : decode cX10_numeral 8 = .ok (.ireturn, 1) := by decide +kernel
theorem dX10_numeral_9 : decode cX10_numeral 9 = .ok (.aload_n 0, 1) := by decide +kernel
theorem dX10_numeral_10 : decode cX10_numeral 10 = .ok (.getfield 64, 3) := by decide +kernel
theorem dX10_numeral_13 : decode cX10_numeral 13 = .ok (.iconst 1, 1) := by decide +kernel
theorem dX10_numeral_14 : decode cX10_numeral 14 = .ok (.if_icmp .eq 11, 3) := by decide +kernel
theorem dX10_numeral_17 : decode cX10_numeral 17 = .ok (.aload_n 0, 1) := by decide +kernel
theorem dX10_numeral_18 : decode cX10_numeral 18 = .ok (.iconst 1, 1) := by decide +kernel
theorem dX10_numeral_19 : decode cX10_numeral 19 = .ok (.invokevirtual 101, 3) := by decide +kernel
theorem dX10_numeral_22 : decode cX10_numeral 22 = .ok (.goto 24, 3) := by decide +kernel
theorem dX10_numeral_25 : decode cX10_numeral 25 = .ok (.aload_n 0, 1) := by decide +kernel
theorem dX10_numeral_26 : decode cX10_numeral 26 = .ok (.getfield 74, 3) := by decide +kernel
theorem dX10_numeral_29 : decode cX10_numeral 29 = .ok (.iload_n 1, 1) := by decide +kernel
theorem dX10_numeral_30 : decode cX10_numeral 30 = .ok (.if_icmp .lt 11, 3) := by decide +kernel
theorem dX10_numeral_33 : decode cX10_numeral 33 = .ok (.aload_n 0, 1) := by decide +kernel
theorem dX10_numeral_34 : decode cX10_numeral 34 = .ok (.getfield 74, 3) := by decide +kernel
theorem dX10_numeral_37 : decode cX10_numeral 37 = .ok (.iload_n 2, 1) := by decide +kernel
theorem dX10_numeral_38 : decode cX10_numeral 38 = .ok (.if_icmp .le 8, 3) := by decide +kernel
theorem dX10_numeral_41 : decode cX10_numeral 41 = .ok (.aload_n 0, 1) := by decide +kernel
theorem dX10_numeral_42 : decode cX10_numeral 42 = .ok (.iconst 2, 1) := by decide +kernel
theorem dX10_numeral_43 : decode cX10_numeral 43 = .ok (.invokevirtual 101, 3) := by decide +kernel
theorem dX10_numeral_46 : decode cX10_numeral 46 = .ok (.aload_n 0, 1) := by decide +kernel
theorem dX10_numeral_47 : decode cX10_numeral 47 = .ok (.getfield 92, 3) := by decide +kernel
theorem dX10_numeral_50 : decode cX10_numeral 50 = .ok (.ifCond .ne 10, 3) := by decide +kernel
theorem dX10_numeral_53 : decode cX10_numeral 53 = .ok (.aload_n 0, 1) := by decide +kernel
theorem dX10_numeral_54 : decode cX10_numeral 54 = .ok (.getfield 74, 3) := by decide +kernel
theorem dX10_numeral_57 : decode cX10_numeral 57 = .ok (.goto 4, 3) := by decide +kernel
theorem dX10_numeral_60 : decode cX10_numeral 60 = .ok (.iload_n 1, 1) := by decide +kernel
theorem dX10_numeral_61 : decode cX10_numeral 61 = .ok (.istore_n 3, 1) := by decide +kernel
theorem dX10_numeral_62 : decode cX10_numeral 62 = .ok (.aload_n 0, 1) := by decide +kernel
theorem dX10_numeral_63 : decode cX10_numeral 63 = .ok (.invokevirtual 105, 3) := by decide +kernel
theorem dX10_numeral_66 : decode cX10_numeral 66 = .ok (.iload_n 3, 1) := by decide +kernel
theorem dX10_numeral_67 : decode cX10_numeral 67 = .ok (.ireturn, 1) := by decide +kernel
theorem dX10_setting_0 : decode cX10_setting 0 = .ok (.aload_n 0, 1) := by decide +kernel
theorem dX10_setting_1 : decode cX10_setting 1 = .ok (.getfield 108, 3) := by decide +kernel
theorem dX10_setting_4 : decode cX10_setting 4 = .ok (.ifCond .le 11, 3) := by decide +kernel
theorem dX10_setting_7 : decode cX10_setting 7 = .ok (.aload_n 0, 1) := by decide +kernel
theorem dX10_setting_8 : decode cX10_setting 8 = .ok (.iconst 1, 1) := by decide +kernel
theorem dX10_setting_9 : decode cX10_setting 9 = .ok (.invokevirtual 101, 3) := by decide +kernel
theorem dX10_setting_12 : decode cX10_setting 12 = .ok (.goto 17, 3) := by decide +kernel
theorem dX10_setting_15 : decode cX10_setting 15 = .ok (.aload_n 0, 1) := by decide +kernel
theorem dX10_setting_16 : decode cX10_setting 16 = .ok (.getfield 16, 3) := by decide +kernel
theorem dX10_setting_19 : decode cX10_setting 19 = .ok (.iload_n 1, 1) := by decide +kernel
theorem dX10_setting_20 : decode cX10_setting 20 = .ok (.baload, 1) := by decide +kernel
theorem dX10_setting_21 : decode cX10_setting 21 = .ok (.ifCond .eq 8, 3) := by decide +kernel
theorem dX10_setting_24 : decode cX10_setting 24 = .ok (.aload_n 0, 1) := by decide +kernel
theorem dX10_setting_25 : decode cX10_setting 25 = .ok (.iconst 3, 1) := by decide +kernel
theorem dX10_setting_26 : decode cX10_setting 26 = .ok (.invokevirtual 101, 3) := by decide +kernel
theorem dX10_setting_29 : decode cX10_setting 29 = .ok (.aload_n 0, 1) := by decide +kernel
theorem dX10_setting_30 : decode cX10_setting 30 = .ok (.getfield 16, 3) := by decide +kernel
theorem dX10_setting_33 : decode cX10_setting 33 = .ok (.iload_n 1, 1) := by decide +kernel
theorem dX10_setting_34 : decode cX10_setting 34 = .ok (.iconst 1, 1) := by decide +kernel
theorem dX10_setting_35 : decode cX10_setting 35 = .ok (.bastore, 1) := by decide +kernel
theorem dX10_setting_36 : decode cX10_setting 36 = .ok (.aload_n 0, 1) := by decide +kernel
theorem dX10_setting_37 : decode cX10_setting 37 = .ok (.invokevirtual 105, 3) := by decide +kernel
theorem dX10_setting_40 : decode cX10_setting 40 = .ok (.aload_n 0, 1) := by decide +kernel
theorem dX10_setting_41 : decode cX10_setting 41 = .ok (.getfield 13, 3) := by decide +kernel
theorem dX10_setting_44 : decode cX10_setting 44 = .ok (.iload_n 1, 1) := by decide +kernel
theorem dX10_setting_45 : decode cX10_setting 45 = .ok (.aload_n 0, 1) := by decide +kernel
theorem dX10_setting_46 : decode cX10_setting 46 = .ok (.iload_n 1, 1) := by decide +kernel
theorem dX10_setting_47 : decode cX10_setting 47 = .ok (.invokestatic 111, 3) := by decide +kernel
theorem dX10_setting_50 : decode cX10_setting 50 = .ok (.iload_n 1, 1) := by decide +kernel
theorem dX10_setting_51 : decode cX10_setting 51 = .ok (.invokestatic 115, 3) := by decide +kernel
theorem dX10_setting_54 : decode cX10_setting 54 = .ok (.invokevirtual 118, 3) := by decide +kernel
theorem dX10_setting_57 : decode cX10_setting 57 = .ok (.iastore, 1) := by decide +kernel
theorem dX10_setting_58 : decode cX10_setting 58 = .ok (.return_, 1) := by decide +kernel
theorem dX10_deed_0 : decode cX10_deed 0 = .ok (.iload_n 1, 1) := by decide +kernel
theorem dX10_deed_1 : decode cX10_deed 1 = .ok (.bipush 9, 2) := by decide +kernel
theorem dX10_deed_3 : decode cX10_deed 3 = .ok (.if_icmp .ne 18, 3) := by decide +kernel
theorem dX10_deed_6 : decode cX10_deed 6 = .ok (.aload_n 0, 1) := by decide +kernel
theorem dX10_deed_7 : decode cX10_deed 7 = .ok (.getfield 122, 3) := by decide +kernel
theorem dX10_deed_10 : decode cX10_deed 10 = .ok (.sipush 200, 3) := by decide +kernel
theorem dX10_deed_13 : decode cX10_deed 13 = .ok (.if_icmp .ne 8, 3) := by decide +kernel
theorem dX10_deed_16 : decode cX10_deed 16 = .ok (.aload_n 0, 1) := by decide +kernel
theorem dX10_deed_17 : decode cX10_deed 17 = .ok (.iconst 2, 1) := by decide +kernel
theorem dX10_deed_18 : decode cX10_deed 18 = .ok (.invokevirtual 101, 3) := by decide +kernel
theorem dX10_deed_21 : decode cX10_deed 21 = .ok (.aload_n 0, 1) := by decide +kernel
theorem dX10_deed_22 : decode cX10_deed 22 = .ok (.iload_n 1, 1) := by decide +kernel
theorem dX10_deed_23 : decode cX10_deed 23 = .ok (.invokevirtual 125, 3) := by decide +kernel
theorem dX10_deed_26 : decode cX10_deed 26 = .ok (.aload_n 0, 1) := by decide +kernel
theorem dX10_deed_27 : decode cX10_deed 27 = .ok (.invokevirtual 105, 3) := by decide +kernel
theorem dX10_deed_30 : decode cX10_deed 30 = .ok (.iload_n 1, 1) := by decide +kernel
theorem dX10_deed_31 : decode cX10_deed 31 = .ok (.bipush 9, 2) := by decide +kernel
theorem dX10_deed_33 : decode cX10_deed 33 = .ok (.if_icmp .ne 50, 3) := by decide +kernel
theorem dX10_deed_36 : decode cX10_deed 36 = .ok (.aload_n 0, 1) := by decide +kernel
theorem dX10_deed_37 : decode cX10_deed 37 = .ok (.dup, 1) := by decide +kernel
theorem dX10_deed_38 : decode cX10_deed 38 = .ok (.getfield 122, 3) := by decide +kernel
theorem dX10_deed_41 : decode cX10_deed 41 = .ok (.iconst 1, 1) := by decide +kernel
theorem dX10_deed_42 : decode cX10_deed 42 = .ok (.iadd, 1) := by decide +kernel
theorem dX10_deed_43 : decode cX10_deed 43 = .ok (.putfield 122, 3) := by decide +kernel
theorem dX10_deed_46 : decode cX10_deed 46 = .ok (.aload_n 0, 1) := by decide +kernel
theorem dX10_deed_47 : decode cX10_deed 47 = .ok (.aload_n 0, 1) := by decide +kernel
theorem dX10_deed_48 : decode cX10_deed 48 = .ok (.iconst 0, 1) := by decide +kernel
theorem dX10_deed_49 : decode cX10_deed 49 = .ok (.sipush 9999, 3) := by decide +kernel
theorem dX10_deed_52 : decode cX10_deed 52 = .ok (.invokevirtual 118, 3) := by decide +kernel
theorem dX10_deed_55 : decode cX10_deed 55 = .ok (.invokevirtual 125, 3) := by decide +kernel
theorem dX10_deed_58 : decode cX10_deed 58 = .ok (.aload_n 0, 1) := by decide +kernel
theorem dX10_deed_59 : decode cX10_deed 59 = .ok (.aload_n 0, 1) := by decide +kernel
theorem dX10_deed_60 : decode cX10_deed 60 = .ok (.iconst 1, 1) := by decide +kernel
theorem dX10_deed_61 : decode cX10_deed 61 = .ok (.sipush 1500, 3) := by decide +kernel
theorem dX10_deed_64 : decode cX10_deed 64 = .ok (.invokevirtual 118, 3) := by decide +kernel
theorem dX10_deed_67 : decode cX10_deed 67 = .ok (.invokevirtual 125, 3) := by decide +kernel
theorem dX10_deed_70 : decode cX10_deed 70 = .ok (.aload_n 0, 1) := by decide +kernel
theorem dX10_deed_71 : decode cX10_deed 71 = .ok (.aload_n 0, 1) := by decide +kernel
theorem dX10_deed_72 : decode cX10_deed 72 = .ok (.iconst 0, 1) := by decide +kernel
theorem dX10_deed_73 : decode cX10_deed 73 = .ok (.iconst 1, 1) := by decide +kernel
theorem dX10_deed_74 : decode cX10_deed 74 = .ok (.invokevirtual 118, 3) := by decide +kernel
theorem dX10_deed_77 : decode cX10_deed 77 = .ok (.invokevirtual 125, 3) := by decide +kernel
theorem dX10_deed_80 : decode cX10_deed 80 = .ok (.goto 38, 3) := by decide +kernel
theorem dX10_deed_83 : decode cX10_deed 83 = .ok (.aload_n 0, 1) := by decide +kernel
theorem dX10_deed_84 : decode cX10_deed 84 = .ok (.aload_n 0, 1) := by decide +kernel
theorem dX10_deed_85 : decode cX10_deed 85 = .ok (.iconst 1, 1) := by decide +kernel
theorem dX10_deed_86 : decode cX10_deed 86 = .ok (.iload_n 1, 1) := by decide +kernel
theorem dX10_deed_87 : decode cX10_deed 87 = .ok (.bipush 10, 2) := by decide +kernel
theorem dX10_deed_89 : decode cX10_deed 89 = .ok (.if_icmp .ne 9, 3) := by decide +kernel
theorem dX10_deed_92 : decode cX10_deed 92 = .ok (.sipush 999, 3) := by decide +kernel
theorem dX10_deed_95 : decode cX10_deed 95 = .ok (.goto 17, 3) := by decide +kernel
theorem dX10_deed_98 : decode cX10_deed 98 = .ok (.iload_n 1, 1) := by decide +kernel
theorem dX10_deed_99 : decode cX10_deed 99 = .ok (.bipush 11, 2) := by decide +kernel
theorem dX10_deed_101 : decode cX10_deed 101 = .ok (.if_icmp .ne 8, 3) := by decide +kernel
theorem dX10_deed_104 : decode cX10_deed 104 = .ok (.bipush 60, 2) := by decide +kernel
theorem dX10_deed_106 : decode cX10_deed 106 = .ok (.goto 6, 3) := by decide +kernel
theorem dX10_deed_109 : decode cX10_deed 109 = .ok (.sipush 200, 3) := by decide +kernel
theorem dX10_deed_112 : decode cX10_deed 112 = .ok (.invokevirtual 118, 3) := by decide +kernel
theorem dX10_deed_115 : decode cX10_deed 115 = .ok (.invokevirtual 125, 3) := by decide +kernel
theorem dX10_deed_118 : decode cX10_deed 118 = .ok (.return_, 1) := by decide +kernel
theorem dX10_sender_0 : decode cX10_sender 0 = .ok (.aload_n 0, 1) := by decide +kernel
theorem dX10_sender_1 : decode cX10_sender 1 = .ok (.getfield 108, 3) := by decide +kernel
theorem dX10_sender_4 : decode cX10_sender 4 = .ok (.ifCond .le 11, 3) := by decide +kernel
theorem dX10_sender_7 : decode cX10_sender 7 = .ok (.aload_n 0, 1) := by decide +kernel
theorem dX10_sender_8 : decode cX10_sender 8 = .ok (.iconst 1, 1) := by decide +kernel
theorem dX10_sender_9 : decode cX10_sender 9 = .ok (.invokevirtual 101, 3) := by decide +kernel
theorem dX10_sender_12 : decode cX10_sender 12 = .ok (.goto 16, 3) := by decide +kernel
theorem dX10_sender_15 : decode cX10_sender 15 = .ok (.aload_n 0, 1) := by decide +kernel
theorem dX10_sender_16 : decode cX10_sender 16 = .ok (.getfield 128, 3) := by decide +kernel
theorem dX10_sender_19 : decode cX10_sender 19 = .ok (.iconst 4, 1) := by decide +kernel
theorem dX10_sender_20 : decode cX10_sender 20 = .ok (.if_icmp .ne 8, 3) := by decide +kernel
theorem dX10_sender_23 : decode cX10_sender 23 = .ok (.aload_n 0, 1) := by decide +kernel
theorem dX10_sender_24 : decode cX10_sender 24 = .ok (.iconst 2, 1) := by decide +kernel
theorem dX10_sender_25 : decode cX10_sender 25 = .ok (.invokevirtual 101, 3) := by decide +kernel
theorem dX10_sender_28 : decode cX10_sender 28 = .ok (.aload_n 0, 1) := by decide +kernel
theorem dX10_sender_29 : decode cX10_sender 29 = .ok (.invokevirtual 105, 3) := by decide +kernel
theorem dX10_sender_32 : decode cX10_sender 32 = .ok (.aload_n 0, 1) := by decide +kernel
theorem dX10_sender_33 : decode cX10_sender 33 = .ok (.getfield 92, 3) := by decide +kernel
theorem dX10_sender_36 : decode cX10_sender 36 = .ok (.ifCond .eq 4, 3) := by decide +kernel
theorem dX10_sender_39 : decode cX10_sender 39 = .ok (.return_, 1) := by decide +kernel
theorem dX10_sender_40 : decode cX10_sender 40 = .ok (.aload_n 0, 1) := by decide +kernel
theorem dX10_sender_41 : decode cX10_sender 41 = .ok (.getfield 64, 3) := by decide +kernel
theorem dX10_sender_44 : decode cX10_sender 44 = .ok (.iconst 1, 1) := by decide +kernel
theorem dX10_sender_45 : decode cX10_sender 45 = .ok (.if_icmp .ne 49, 3) := by decide +kernel
theorem dX10_sender_48 : decode cX10_sender 48 = .ok (.aload_n 0, 1) := by decide +kernel
theorem dX10_sender_49 : decode cX10_sender 49 = .ok (.getfield 74, 3) := by decide +kernel
theorem dX10_sender_52 : decode cX10_sender 52 = .ok (.sipush 9999, 3) := by decide +kernel
theorem dX10_sender_55 : decode cX10_sender 55 = .ok (.if_icmp .gt 39, 3) := by decide +kernel
theorem dX10_sender_58 : decode cX10_sender 58 = .ok (.iconst 0, 1) := by decide +kernel
theorem dX10_sender_59 : decode cX10_sender 59 = .ok (.istore_n 1, 1) := by decide +kernel
theorem dX10_sender_60 : decode cX10_sender 60 = .ok (.iload_n 1, 1) := by decide +kernel
theorem dX10_sender_61 : decode cX10_sender 61 = .ok (.aload_n 0, 1) := by decide +kernel
theorem dX10_sender_62 : decode cX10_sender 62 = .ok (.getfield 128, 3) := by decide +kernel
theorem dX10_sender_65 : decode cX10_sender 65 = .ok (.if_icmp .ge 29, 3) := by decide +kernel
theorem dX10_sender_68 : decode cX10_sender 68 = .ok (.aload_n 0, 1) := by decide +kernel
theorem dX10_sender_69 : decode cX10_sender 69 = .ok (.getfield 20, 3) := by decide +kernel
theorem dX10_sender_72 : decode cX10_sender 72 = .ok (.iconst 5, 1) := by decide +kernel
theorem dX10_sender_73 : decode cX10_sender 73 = .ok (.iload_n 1, 1) := by decide +kernel
theorem dX10_sender_74 : decode cX10_sender 74 = .ok (.imul, 1) := by decide +kernel
theorem dX10_sender_75 : decode cX10_sender 75 = .ok (.iaload, 1) := by decide +kernel
theorem dX10_sender_76 : decode cX10_sender 76 = .ok (.aload_n 0, 1) := by decide +kernel
theorem dX10_sender_77 : decode cX10_sender 77 = .ok (.getfield 74, 3) := by decide +kernel
theorem dX10_sender_80 : decode cX10_sender 80 = .ok (.if_icmp .ne 8, 3) := by decide +kernel
theorem dX10_sender_83 : decode cX10_sender 83 = .ok (.aload_n 0, 1) := by decide +kernel
theorem dX10_sender_84 : decode cX10_sender 84 = .ok (.iconst 3, 1) := by decide +kernel
theorem dX10_sender_85 : decode cX10_sender 85 = .ok (.invokevirtual 101, 3) := by decide +kernel
theorem dX10_sender_88 : decode cX10_sender 88 = .ok (.iinc 1 1, 3) := by decide +kernel
theorem dX10_sender_91 : decode cX10_sender 91 = .ok (.goto (-31), 3) := by decide +kernel
theorem dX10_sender_94 : decode cX10_sender 94 = .ok (.iconst 5, 1) := by decide +kernel
theorem dX10_sender_95 : decode cX10_sender 95 = .ok (.aload_n 0, 1) := by decide +kernel
theorem dX10_sender_96 : decode cX10_sender 96 = .ok (.getfield 128, 3) := by decide +kernel
theorem dX10_sender_99 : decode cX10_sender 99 = .ok (.imul, 1) := by decide +kernel
theorem dX10_sender_100 : decode cX10_sender 100 = .ok (.istore_n 1, 1) := by decide +kernel
theorem dX10_sender_101 : decode cX10_sender 101 = .ok (.aload_n 0, 1) := by decide +kernel
theorem dX10_sender_102 : decode cX10_sender 102 = .ok (.iconst 0, 1) := by decide +kernel
theorem dX10_sender_103 : decode cX10_sender 103 = .ok (.sipush 9999, 3) := by decide +kernel
theorem dX10_sender_106 : decode cX10_sender 106 = .ok (.invokevirtual 118, 3) := by decide +kernel
theorem dX10_sender_109 : decode cX10_sender 109 = .ok (.istore_n 2, 1) := by decide +kernel
theorem dX10_sender_110 : decode cX10_sender 110 = .ok (.aload_n 0, 1) := by decide +kernel
theorem dX10_sender_111 : decode cX10_sender 111 = .ok (.iconst 1, 1) := by decide +kernel
theorem dX10_sender_112 : decode cX10_sender 112 = .ok (.sipush 1500, 3) := by decide +kernel
theorem dX10_sender_115 : decode cX10_sender 115 = .ok (.invokevirtual 118, 3) := by decide +kernel
theorem dX10_sender_118 : decode cX10_sender 118 = .ok (.istore_n 3, 1) := by decide +kernel
theorem dX10_sender_119 : decode cX10_sender 119 = .ok (.aload_n 0, 1) := by decide +kernel
theorem dX10_sender_120 : decode cX10_sender 120 = .ok (.iconst 1, 1) := by decide +kernel
theorem dX10_sender_121 : decode cX10_sender 121 = .ok (.bipush 20, 2) := by decide +kernel
theorem dX10_sender_123 : decode cX10_sender 123 = .ok (.invokevirtual 118, 3) := by decide +kernel
theorem dX10_sender_126 : decode cX10_sender 126 = .ok (.istore 4, 2) := by decide +kernel
theorem dX10_sender_128 : decode cX10_sender 128 = .ok (.aload_n 0, 1) := by decide +kernel
theorem dX10_sender_129 : decode cX10_sender 129 = .ok (.iconst 1, 1) := by decide +kernel
theorem dX10_sender_130 : decode cX10_sender 130 = .ok (.bipush 99, 2) := by decide +kernel
theorem dX10_sender_132 : decode cX10_sender 132 = .ok (.invokevirtual 118, 3) := by decide +kernel
theorem dX10_sender_135 : decode cX10_sender 135 = .ok (.istore 5, 2) := by decide +kernel
theorem dX10_sender_137 : decode cX10_sender 137 = .ok (.aload_n 0, 1) := by decide +kernel
theorem dX10_sender_138 : decode cX10_sender 138 = .ok (.iconst 0, 1) := by decide +kernel
theorem dX10_sender_139 : decode cX10_sender 139 = .ok (.iconst 1, 1) := by decide +kernel
theorem dX10_sender_140 : decode cX10_sender 140 = .ok (.invokevirtual 118, 3) := by decide +kernel
theorem dX10_sender_143 : decode cX10_sender 143 = .ok (.istore 6, 2) := by decide +kernel
theorem dX10_sender_145 : decode cX10_sender 145 = .ok (.aload_n 0, 1) := by decide +kernel
theorem dX10_sender_146 : decode cX10_sender 146 = .ok (.getfield 92, 3) := by decide +kernel
theorem dX10_sender_149 : decode cX10_sender 149 = .ok (.ifCond .eq 4, 3) := by decide +kernel
theorem dX10_sender_152 : decode cX10_sender 152 = .ok (.return_, 1) := by decide +kernel
theorem dX10_sender_153 : decode cX10_sender 153 = .ok (.aload_n 0, 1) := by decide +kernel
theorem dX10_sender_154 : decode cX10_sender 154 = .ok (.getfield 20, 3) := by decide +kernel
theorem dX10_sender_157 : decode cX10_sender 157 = .ok (.iload_n 1, 1) := by decide +kernel
theorem dX10_sender_158 : decode cX10_sender 158 = .ok (.iload_n 2, 1) := by decide +kernel
theorem dX10_sender_159 : decode cX10_sender 159 = .ok (.iastore, 1) := by decide +kernel
theorem dX10_sender_160 : decode cX10_sender 160 = .ok (.aload_n 0, 1) := by decide +kernel
theorem dX10_sender_161 : decode cX10_sender 161 = .ok (.getfield 20, 3) := by decide +kernel
theorem dX10_sender_164 : decode cX10_sender 164 = .ok (.iload_n 1, 1) := by decide +kernel
theorem dX10_sender_165 : decode cX10_sender 165 = .ok (.iconst 1, 1) := by decide +kernel
theorem dX10_sender_166 : decode cX10_sender 166 = .ok (.iadd, 1) := by decide +kernel
theorem dX10_sender_167 : decode cX10_sender 167 = .ok (.iload_n 3, 1) := by decide +kernel
theorem dX10_sender_168 : decode cX10_sender 168 = .ok (.iastore, 1) := by decide +kernel
theorem dX10_sender_169 : decode cX10_sender 169 = .ok (.aload_n 0, 1) := by decide +kernel
theorem dX10_sender_170 : decode cX10_sender 170 = .ok (.getfield 20, 3) := by decide +kernel
theorem dX10_sender_173 : decode cX10_sender 173 = .ok (.iload_n 1, 1) := by decide +kernel
theorem dX10_sender_174 : decode cX10_sender 174 = .ok (.iconst 2, 1) := by decide +kernel
theorem dX10_sender_175 : decode cX10_sender 175 = .ok (.iadd, 1) := by decide +kernel
theorem dX10_sender_176 : decode cX10_sender 176 = .ok (.bipush 100, 2) := by decide +kernel
theorem dX10_sender_178 : decode cX10_sender 178 = .ok (.iload 4, 2) := by decide +kernel
theorem dX10_sender_180 : decode cX10_sender 180 = .ok (.imul, 1) := by decide +kernel
theorem dX10_sender_181 : decode cX10_sender 181 = .ok (.iastore, 1) := by decide +kernel
theorem dX10_sender_182 : decode cX10_sender 182 = .ok (.aload_n 0, 1) := by decide +kernel
theorem dX10_sender_183 : decode cX10_sender 183 = .ok (.getfield 20, 3) := by decide +kernel
theorem dX10_sender_186 : decode cX10_sender 186 = .ok (.iload_n 1, 1) := by decide +kernel
theorem dX10_sender_187 : decode cX10_sender 187 = .ok (.iconst 3, 1) := by decide +kernel
theorem dX10_sender_188 : decode cX10_sender 188 = .ok (.iadd, 1) := by decide +kernel
theorem dX10_sender_189 : decode cX10_sender 189 = .ok (.iload 5, 2) := by decide +kernel
theorem dX10_sender_191 : decode cX10_sender 191 = .ok (.iastore, 1) := by decide +kernel
theorem dX10_sender_192 : decode cX10_sender 192 = .ok (.aload_n 0, 1) := by decide +kernel
theorem dX10_sender_193 : decode cX10_sender 193 = .ok (.getfield 20, 3) := by decide +kernel
theorem dX10_sender_196 : decode cX10_sender 196 = .ok (.iload_n 1, 1) := by decide +kernel
theorem dX10_sender_197 : decode cX10_sender 197 = .ok (.iconst 4, 1) := by decide +kernel
theorem dX10_sender_198 : decode cX10_sender 198 = .ok (.iadd, 1) := by decide +kernel
theorem dX10_sender_199 : decode cX10_sender 199 = .ok (.iload 6, 2) := by decide +kernel
theorem dX10_sender_201 : decode cX10_sender 201 = .ok (.iastore, 1) := by decide +kernel
theorem dX10_sender_202 : decode cX10_sender 202 = .ok (.aload_n 0, 1) := by decide +kernel
theorem dX10_sender_203 : decode cX10_sender 203 = .ok (.dup, 1) := by decide +kernel
theorem dX10_sender_204 : decode cX10_sender 204 = .ok (.getfield 128, 3) := by decide +kernel
theorem dX10_sender_207 : decode cX10_sender 207 = .ok (.iconst 1, 1) := by decide +kernel
theorem dX10_sender_208 : decode cX10_sender 208 = .ok (.iadd, 1) := by decide +kernel
theorem dX10_sender_209 : decode cX10_sender 209 = .ok (.putfield 128, 3) := by decide +kernel
theorem dX10_sender_212 : decode cX10_sender 212 = .ok (.return_, 1) := by decide +kernel
theorem dX10_readLine_0 : decode cX10_readLine 0 = .ok (.aload_n 0, 1) := by decide +kernel
theorem dX10_readLine_1 : decode cX10_readLine 1 = .ok (.getfield 64, 3) := by decide +kernel
theorem dX10_readLine_4 : decode cX10_readLine 4 = .ok (.ifCond .eq 11, 3) := by decide +kernel
theorem dX10_readLine_7 : decode cX10_readLine 7 = .ok (.aload_n 0, 1) := by decide +kernel
theorem dX10_readLine_8 : decode cX10_readLine 8 = .ok (.iconst 1, 1) := by decide +kernel
theorem dX10_readLine_9 : decode cX10_readLine 9 = .ok (.invokevirtual 101, 3) := by decide +kernel
theorem dX10_readLine_12 : decode cX10_readLine 12 = .ok (.goto 47, 3) := by decide +kernel
theorem dX10_readLine_15 : decode cX10_readLine 15 = .ok (.aload_n 0, 1) := by decide +kernel
theorem dX10_readLine_16 : decode cX10_readLine 16 = .ok (.getfield 74, 3) := by decide +kernel
theorem dX10_readLine_19 : decode cX10_readLine 19 = .ok (.bipush 8, 2) := by decide +kernel
theorem dX10_readLine_21 : decode cX10_readLine 21 = .ok (.if_icmp .ge 14, 3) := by decide +kernel
theorem dX10_readLine_24 : decode cX10_readLine 24 = .ok (.aload_n 0, 1) := by decide +kernel
theorem dX10_readLine_25 : decode cX10_readLine 25 = .ok (.aload_n 0, 1) := by decide +kernel
theorem dX10_readLine_26 : decode cX10_readLine 26 = .ok (.getfield 74, 3) := by decide +kernel
theorem dX10_readLine_29 : decode cX10_readLine 29 = .ok (.invokevirtual 131, 3) := by decide +kernel
theorem dX10_readLine_32 : decode cX10_readLine 32 = .ok (.goto 27, 3) := by decide +kernel
theorem dX10_readLine_35 : decode cX10_readLine 35 = .ok (.aload_n 0, 1) := by decide +kernel
theorem dX10_readLine_36 : decode cX10_readLine 36 = .ok (.getfield 74, 3) := by decide +kernel
theorem dX10_readLine_39 : decode cX10_readLine 39 = .ok (.bipush 8, 2) := by decide +kernel
theorem dX10_readLine_41 : decode cX10_readLine 41 = .ok (.if_icmp .ne 10, 3) := by decide +kernel
theorem dX10_readLine_44 : decode cX10_readLine 44 = .ok (.aload_n 0, 1) := by decide +kernel
theorem dX10_readLine_45 : decode cX10_readLine 45 = .ok (.invokevirtual 134, 3) := by decide +kernel
theorem dX10_readLine_48 : decode cX10_readLine 48 = .ok (.goto 11, 3) := by decide +kernel
theorem dX10_readLine_51 : decode cX10_readLine 51 = .ok (.aload_n 0, 1) := by decide +kernel
theorem dX10_readLine_52 : decode cX10_readLine 52 = .ok (.aload_n 0, 1) := by decide +kernel
theorem dX10_readLine_53 : decode cX10_readLine 53 = .ok (.getfield 74, 3) := by decide +kernel
theorem dX10_readLine_56 : decode cX10_readLine 56 = .ok (.invokevirtual 137, 3) := by decide +kernel
theorem dX10_readLine_59 : decode cX10_readLine 59 = .ok (.aload_n 0, 1) := by decide +kernel
theorem dX10_readLine_60 : decode cX10_readLine 60 = .ok (.getfield 92, 3) := by decide +kernel
theorem dX10_readLine_63 : decode cX10_readLine 63 = .ok (.ifCond .ne 16, 3) := by decide +kernel
theorem dX10_readLine_66 : decode cX10_readLine 66 = .ok (.aload_n 0, 1) := by decide +kernel
theorem dX10_readLine_67 : decode cX10_readLine 67 = .ok (.getfield 64, 3) := by decide +kernel
theorem dX10_readLine_70 : decode cX10_readLine 70 = .ok (.iconst 2, 1) := by decide +kernel
theorem dX10_readLine_71 : decode cX10_readLine 71 = .ok (.if_icmp .eq 8, 3) := by decide +kernel
theorem dX10_readLine_74 : decode cX10_readLine 74 = .ok (.aload_n 0, 1) := by decide +kernel
theorem dX10_readLine_75 : decode cX10_readLine 75 = .ok (.iconst 1, 1) := by decide +kernel
theorem dX10_readLine_76 : decode cX10_readLine 76 = .ok (.invokevirtual 101, 3) := by decide +kernel
theorem dX10_readLine_79 : decode cX10_readLine 79 = .ok (.aload_n 0, 1) := by decide +kernel
theorem dX10_readLine_80 : decode cX10_readLine 80 = .ok (.invokevirtual 105, 3) := by decide +kernel
theorem dX10_readLine_83 : decode cX10_readLine 83 = .ok (.aload_n 0, 1) := by decide +kernel
theorem dX10_readLine_84 : decode cX10_readLine 84 = .ok (.dup, 1) := by decide +kernel
theorem dX10_readLine_85 : decode cX10_readLine 85 = .ok (.getfield 140, 3) := by decide +kernel
theorem dX10_readLine_88 : decode cX10_readLine 88 = .ok (.iconst 1, 1) := by decide +kernel
theorem dX10_readLine_89 : decode cX10_readLine 89 = .ok (.iadd, 1) := by decide +kernel
theorem dX10_readLine_90 : decode cX10_readLine 90 = .ok (.putfield 140, 3) := by decide +kernel
theorem dX10_readLine_93 : decode cX10_readLine 93 = .ok (.return_, 1) := by decide +kernel
theorem dX10_readText_0 : decode cX10_readText 0 = .ok (.aload_n 0, 1) := by decide +kernel
theorem dX10_readText_1 : decode cX10_readText 1 = .ok (.iload_n 1, 1) := by decide +kernel
theorem dX10_readText_2 : decode cX10_readText 2 = .ok (.putfield 54, 3) := by decide +kernel
theorem dX10_readText_5 : decode cX10_readText 5 = .ok (.aload_n 0, 1) := by decide +kernel
theorem dX10_readText_6 : decode cX10_readText 6 = .ok (.iconst 0, 1) := by decide +kernel
theorem dX10_readText_7 : decode cX10_readText 7 = .ok (.putfield 51, 3) := by decide +kernel
theorem dX10_readText_10 : decode cX10_readText 10 = .ok (.aload_n 0, 1) := by decide +kernel
theorem dX10_readText_11 : decode cX10_readText 11 = .ok (.iconst 0, 1) := by decide +kernel
theorem dX10_readText_12 : decode cX10_readText 12 = .ok (.putfield 92, 3) := by decide +kernel
theorem dX10_readText_15 : decode cX10_readText 15 = .ok (.aload_n 0, 1) := by decide +kernel
theorem dX10_readText_16 : decode cX10_readText 16 = .ok (.iconst 0, 1) := by decide +kernel
theorem dX10_readText_17 : decode cX10_readText 17 = .ok (.putfield 140, 3) := by decide +kernel
theorem dX10_readText_20 : decode cX10_readText 20 = .ok (.aload_n 0, 1) := by decide +kernel
theorem dX10_readText_21 : decode cX10_readText 21 = .ok (.invokevirtual 39, 3) := by decide +kernel
theorem dX10_readText_24 : decode cX10_readText 24 = .ok (.aload_n 0, 1) := by decide +kernel
theorem dX10_readText_25 : decode cX10_readText 25 = .ok (.invokevirtual 98, 3) := by decide +kernel
theorem dX10_readText_28 : decode cX10_readText 28 = .ok (.aload_n 0, 1) := by decide +kernel
theorem dX10_readText_29 : decode cX10_readText 29 = .ok (.getfield 92, 3) := by decide +kernel
theorem dX10_readText_32 : decode cX10_readText 32 = .ok (.ifCond .ne 18, 3) := by decide +kernel
theorem dX10_readText_35 : decode cX10_readText 35 = .ok (.aload_n 0, 1) := by decide +kernel
theorem dX10_readText_36 : decode cX10_readText 36 = .ok (.getfield 64, 3) := by decide +kernel
theorem dX10_readText_39 : decode cX10_readText 39 = .ok (.iconst 3, 1) := by decide +kernel
theorem dX10_readText_40 : decode cX10_readText 40 = .ok (.if_icmp .eq 10, 3) := by decide +kernel
theorem dX10_readText_43 : decode cX10_readText 43 = .ok (.aload_n 0, 1) := by decide +kernel
theorem dX10_readText_44 : decode cX10_readText 44 = .ok (.invokevirtual 143, 3) := by decide +kernel
theorem dX10_readText_47 : decode cX10_readText 47 = .ok (.goto (-19), 3) := by decide +kernel
theorem dX10_readText_50 : decode cX10_readText 50 = .ok (.return_, 1) := by decide +kernel
theorem dX10_text_0 : decode cX10_text 0 = .ok (.aload_n 0, 1) := by decide +kernel
theorem dX10_text_1 : decode cX10_text 1 = .ok (.iconst 0, 1) := by decide +kernel
theorem dX10_text_2 : decode cX10_text 2 = .ok (.putfield 45, 3) := by decide +kernel
theorem dX10_text_5 : decode cX10_text 5 = .ok (.iload_n 1, 1) := by decide +kernel
theorem dX10_text_6 : decode cX10_text 6 = .ok (.ifCond .lt 11, 3) := by decide +kernel
theorem dX10_text_9 : decode cX10_text 9 = .ok (.iload_n 1, 1) := by decide +kernel
theorem dX10_text_10 : decode cX10_text 10 = .ok (.aload_n 0, 1) := by decide +kernel
theorem dX10_text_11 : decode cX10_text 11 = .ok (.getfield 48, 3) := by decide +kernel
theorem dX10_text_14 : decode cX10_text 14 = .ok (.if_icmp .le 6, 3) := by decide +kernel
theorem dX10_text_17 : decode cX10_text 17 = .ok (.bipush (-2), 2) := by decide +kernel
theorem dX10_text_19 : decode cX10_text 19 = .ok (.ireturn, 1) := by decide +kernel
theorem dX10_text_20 : decode cX10_text 20 = .ok (.aload_n 0, 1) := by decide +kernel
theorem dX10_text_21 : decode cX10_text 21 = .ok (.iload_n 1, 1) := by decide +kernel
theorem dX10_text_22 : decode cX10_text 22 = .ok (.invokevirtual 156, 3) := by decide +kernel
theorem dX10_text_25 : decode cX10_text 25 = .ok (.aload_n 0, 1) := by decide +kernel
theorem dX10_text_26 : decode cX10_text 26 = .ok (.iconst 0, 1) := by decide +kernel
theorem dX10_text_27 : decode cX10_text 27 = .ok (.putfield 48, 3) := by decide +kernel
theorem dX10_text_30 : decode cX10_text 30 = .ok (.aload_n 0, 1) := by decide +kernel
theorem dX10_text_31 : decode cX10_text 31 = .ok (.aload_n 0, 1) := by decide +kernel
theorem dX10_text_32 : decode cX10_text 32 = .ok (.getfield 92, 3) := by decide +kernel
theorem dX10_text_35 : decode cX10_text 35 = .ok (.putfield 159, 3) := by decide +kernel
theorem dX10_text_38 : decode cX10_text 38 = .ok (.aload_n 0, 1) := by decide +kernel
theorem dX10_text_39 : decode cX10_text 39 = .ok (.aload_n 0, 1) := by decide +kernel
theorem dX10_text_40 : decode cX10_text 40 = .ok (.getfield 92, 3) := by decide +kernel
theorem dX10_text_43 : decode cX10_text 43 = .ok (.ifCond .ne 7, 3) := by decide +kernel
theorem dX10_text_46 : decode cX10_text 46 = .ok (.iconst (-1), 1) := by decide +kernel
theorem dX10_text_47 : decode cX10_text 47 = .ok (.goto 7, 3) := by decide +kernel
theorem dX10_text_50 : decode cX10_text 50 = .ok (.aload_n 0, 1) := by decide +kernel
theorem dX10_text_51 : decode cX10_text 51 = .ok (.getfield 95, 3) := by decide +kernel
theorem dX10_text_54 : decode cX10_text 54 = .ok (.putfield 26, 3) := by decide +kernel
theorem dX10_text_57 : decode cX10_text 57 = .ok (.aload_n 0, 1) := by decide +kernel
theorem dX10_text_58 : decode cX10_text 58 = .ok (.getfield 92, 3) := by decide +kernel
theorem dX10_text_61 : decode cX10_text 61 = .ok (.ifCond .eq 5, 3) := by decide +kernel
theorem dX10_text_64 : decode cX10_text 64 = .ok (.iconst (-1), 1) := by decide +kernel
theorem dX10_text_65 : decode cX10_text 65 = .ok (.ireturn, 1) := by decide +kernel
theorem dX10_text_66 : decode cX10_text 66 = .ok (.aload_n 0, 1) := by decide +kernel
theorem dX10_text_67 : decode cX10_text 67 = .ok (.invokevirtual 42, 3) := by decide +kernel
theorem dX10_text_70 : decode cX10_text 70 = .ok (.aload_n 0, 1) := by decide +kernel
theorem dX10_text_71 : decode cX10_text 71 = .ok (.invokevirtual 162, 3) := by decide +kernel
theorem dX10_text_74 : decode cX10_text 74 = .ok (.aload_n 0, 1) := by decide +kernel
theorem dX10_text_75 : decode cX10_text 75 = .ok (.getfield 140, 3) := by decide +kernel
theorem dX10_text_78 : decode cX10_text 78 = .ok (.ireturn, 1) := by decide +kernel
def b_X10_wordHere_97 (k4 : Hp × Int32 × Int32 → Option (Int32 × Hp)) (o0 : Nat) (x1 : Int32) (k97 : Hp × Int32 → Option (Int32 × Hp)) (q : Hp × Int32) : Option (Int32 × Hp) :=
  if ib q.2 (sle 14) then (if (sch 14 q.2) = 32 then (k4 (q.1, x1 + 1, q.2 + 1)) else (k97 (q.1, q.2 + 1))) else none
def q_X10_wordHere_69 (k4 : Hp × Int32 × Int32 → Option (Int32 × Hp)) (h : Hp) (o0 : Nat) (x1 : Int32) (x2 : Int32) (x3 : Int32) : Option (Int32 × Hp) :=
  if ib (x2 + x3) (sle 14) then (if (sch 14 (x2 + x3)) = 32 then (if ((h o0 13) + x3) = (h o0 12) then (some (x1, h)) else (lp (b_X10_wordHere_97 k4 o0 x1) FU (h, x2))) else (lp (b_X10_wordHere_97 k4 o0 x1) FU (h, x2))) else none
def b_X10_wordHere_15 (k4 : Hp × Int32 × Int32 → Option (Int32 × Hp)) (o0 : Nat) (x1 : Int32) (x2 : Int32) (k15 : Hp × Int32 → Option (Int32 × Hp)) (q : Hp × Int32) : Option (Int32 × Hp) :=
  if ib (x2 + q.2) (sle 14) then (if (sch 14 (x2 + q.2)) = 32 then (q_X10_wordHere_69 k4 q.1 o0 x1 x2 q.2) else (if (q.1 o0 12) ≤ ((q.1 o0 13) + q.2) then (q_X10_wordHere_69 k4 q.1 o0 x1 x2 q.2) else (if ib ((q.1 o0 13) + q.2) 900 then (if ib (x2 + q.2) (sle 14) then (if (q.1 (o0 + 1) (Int32.toNatClampNeg ((q.1 o0 13) + q.2))) = (sch 14 (x2 + q.2)) then (k15 (q.1, q.2 + 1)) else (q_X10_wordHere_69 k4 q.1 o0 x1 x2 q.2)) else none) else none))) else none
def b_X10_wordHere_4 (o0 : Nat) (k4 : Hp × Int32 × Int32 → Option (Int32 × Hp)) (q : Hp × Int32 × Int32) : Option (Int32 × Hp) :=
  if (slen 14) ≤ q.2.2 then (some ((-1), q.1)) else (lp (b_X10_wordHere_15 k4 o0 q.2.1 q.2.2) FU (q.1, 0))
def p_X10_wordHere (h : Hp) (o0 : Nat) : Option (Int32 × Hp) :=
  lp (b_X10_wordHere_4 o0) FU (h, 0, 0)
set_option maxRecDepth 4000 in
theorem s_X10_wordHere_97 {p : Program} {l : Launch} {e : Env} {s : State} {m : MethodId} {args : Array Value} {below : List Frame} {meth : Method} {c : Code} {G : GT} (cx : CX p s m args c cX10_wordHere 4 RX10 G) (hr : meth.sig.returnType = (some .int)) (hlk : meth.locks = false) (o0 : Nat) (x1 : Int32) (hk_o0 : kd o0 = 9) (k4 : Hp × Int32 × Int32 → Option (Int32 × Hp)) (hk4 : ∀ (q : Hp × Int32 × Int32), PF p l e (rmc 4 85) s m args below meth c 4 G 0 0 (QI below G args s) 4 [some (.ref (gad G o0)), some (.int q.2.1), some (.int q.2.2), none] [] q.1 (k4 q)) : ∀ (n : Nat) (q : Hp × Int32), PF p l e (rmc 4 85) s m args below meth c 4 G 0 0 (QI below G args s) 97 [some (.ref (gad G o0)), some (.int x1), some (.int q.2), none] [] q.1 (lp (b_X10_wordHere_97 k4 o0 x1) n q) := by
  refine f_lp (lvf := fun (q : Hp × Int32) => [some (.ref (gad G o0)), some (.int x1), some (.int q.2), none]) (hf := fun (q : Hp × Int32) => q.1) (fun k97 hk97 q => ?_)
  show PF p l e (rmc 4 85) s m args below meth c 4 G 0 0 (QI below G args s) 97 [some (.ref (gad G o0)), some (.int x1), some (.int q.2), none] [] q.1 (b_X10_wordHere_97 k4 o0 x1 k97 q)
  unfold b_X10_wordHere_97
  refine f_ldcS (pc := 97) (j := 14) cx (by decide) rfl rfl dX10_wordHere_97 ?_
  refine f_iload_n (pc := 99) cx dX10_wordHere_99 rfl rfl ?_
  refine f_need (fun c1 => ?_)
  refine k_X10_88 (pc := 100) cx (by decide : 14 < 17) c1 ⟨by decide, by decide⟩ ⟨Nat.zero_le _, Nat.zero_le _⟩ (Nat.le_of_ble_eq_true rfl) dX10_wordHere_100 ?_
  refine f_bipush (pc := 103) cx dX10_wordHere_103 kc_bipush_32 ?_
  refine f_icmp_eq (pc := 105) (tgt := 114) cx dX10_wordHere_105 (by decide) (fun _ => ?_) (fun _ => ?_)
  · refine f_iinc2 (pc := 114) cx dX10_wordHere_114 kc_iconst_1 (by decide) rfl ?_
    refine f_iinc1 (pc := 117) cx dX10_wordHere_117 kc_iconst_1 (by decide) rfl ?_
    refine f_goto (pc := 120) (tgt := 4) cx dX10_wordHere_120 (by decide) ?_
    exact f_weak (LSb.s (LSb.s (LSb.s (LSb.n LSb.e)))) (hk4 (q.1, x1 + 1, q.2 + 1))
  · refine f_iinc2 (pc := 108) cx dX10_wordHere_108 kc_iconst_1 (by decide) rfl ?_
    refine f_goto (pc := 111) (tgt := 97) cx dX10_wordHere_111 (by decide) ?_
    exact f_weak (LSb.s (LSb.s (LSb.s (LSb.n LSb.e)))) (hk97 (q.1, q.2 + 1))
set_option maxRecDepth 4000 in
theorem s_X10_wordHere_69 {p : Program} {l : Launch} {e : Env} {s : State} {m : MethodId} {args : Array Value} {below : List Frame} {meth : Method} {c : Code} {G : GT} (cx : CX p s m args c cX10_wordHere 4 RX10 G) (hr : meth.sig.returnType = (some .int)) (hlk : meth.locks = false) (h : Hp) (o0 : Nat) (x1 : Int32) (x2 : Int32) (x3 : Int32) (hk_o0 : kd o0 = 9) (k4 : Hp × Int32 × Int32 → Option (Int32 × Hp)) (hk4 : ∀ (q : Hp × Int32 × Int32), PF p l e (rmc 4 85) s m args below meth c 4 G 0 0 (QI below G args s) 4 [some (.ref (gad G o0)), some (.int q.2.1), some (.int q.2.2), none] [] q.1 (k4 q)) : PF p l e (rmc 4 85) s m args below meth c 4 G 0 0 (QI below G args s) 69 [some (.ref (gad G o0)), some (.int x1), some (.int x2), some (.int x3)] [] h (q_X10_wordHere_69 k4 h o0 x1 x2 x3) := by
  unfold q_X10_wordHere_69
  refine f_ldcS (pc := 69) (j := 14) cx (by decide) rfl rfl dX10_wordHere_69 ?_
  refine f_iload_n (pc := 71) cx dX10_wordHere_71 rfl rfl ?_
  refine f_iload_n (pc := 72) cx dX10_wordHere_72 rfl rfl ?_
  refine f_iadd (pc := 73) cx dX10_wordHere_73 ?_
  refine f_need (fun c2 => ?_)
  refine k_X10_88 (pc := 74) cx (by decide : 14 < 17) c2 ⟨by decide, by decide⟩ ⟨Nat.zero_le _, Nat.zero_le _⟩ (Nat.le_of_ble_eq_true rfl) dX10_wordHere_74 ?_
  refine f_bipush (pc := 77) cx dX10_wordHere_77 kc_bipush_32 ?_
  refine f_icmp_ne (pc := 79) (tgt := 97) cx dX10_wordHere_79 (by decide) (fun _ => ?_) (fun _ => ?_)
  · refine f_aload_n (pc := 82) cx dX10_wordHere_82 rfl rfl ?_
    refine g_X10_61 (pc := 83) cx hk_o0 dX10_wordHere_83 ?_
    refine f_iload_n (pc := 86) cx dX10_wordHere_86 rfl rfl ?_
    refine f_iadd (pc := 87) cx dX10_wordHere_87 ?_
    refine f_aload_n (pc := 88) cx dX10_wordHere_88 rfl rfl ?_
    refine g_X10_51 (pc := 89) cx hk_o0 dX10_wordHere_89 ?_
    refine f_icmp_ne (pc := 92) (tgt := 97) cx dX10_wordHere_92 (by decide) (fun _ => ?_) (fun _ => ?_)
    · refine f_iload_n (pc := 95) cx dX10_wordHere_95 rfl rfl ?_
      exact f_iret cx hr hlk rfl dX10_wordHere_96
    · exact f_weak (LSb.s (LSb.s (LSb.s (LSb.n LSb.e)))) (s_X10_wordHere_97 cx hr hlk o0 x1 hk_o0 k4 hk4 FU (h, x2))
  · exact f_weak (LSb.s (LSb.s (LSb.s (LSb.n LSb.e)))) (s_X10_wordHere_97 cx hr hlk o0 x1 hk_o0 k4 hk4 FU (h, x2))
set_option maxRecDepth 4000 in
theorem s_X10_wordHere_15 {p : Program} {l : Launch} {e : Env} {s : State} {m : MethodId} {args : Array Value} {below : List Frame} {meth : Method} {c : Code} {G : GT} (cx : CX p s m args c cX10_wordHere 4 RX10 G) (hr : meth.sig.returnType = (some .int)) (hlk : meth.locks = false) (o0 : Nat) (x1 : Int32) (x2 : Int32) (hk_o0 : kd o0 = 9) (k4 : Hp × Int32 × Int32 → Option (Int32 × Hp)) (hk4 : ∀ (q : Hp × Int32 × Int32), PF p l e (rmc 4 85) s m args below meth c 4 G 0 0 (QI below G args s) 4 [some (.ref (gad G o0)), some (.int q.2.1), some (.int q.2.2), none] [] q.1 (k4 q)) : ∀ (n : Nat) (q : Hp × Int32), PF p l e (rmc 4 85) s m args below meth c 4 G 0 0 (QI below G args s) 15 [some (.ref (gad G o0)), some (.int x1), some (.int x2), some (.int q.2)] [] q.1 (lp (b_X10_wordHere_15 k4 o0 x1 x2) n q) := by
  refine f_lp (lvf := fun (q : Hp × Int32) => [some (.ref (gad G o0)), some (.int x1), some (.int x2), some (.int q.2)]) (hf := fun (q : Hp × Int32) => q.1) (fun k15 hk15 q => ?_)
  show PF p l e (rmc 4 85) s m args below meth c 4 G 0 0 (QI below G args s) 15 [some (.ref (gad G o0)), some (.int x1), some (.int x2), some (.int q.2)] [] q.1 (b_X10_wordHere_15 k4 o0 x1 x2 k15 q)
  unfold b_X10_wordHere_15
  refine f_ldcS (pc := 15) (j := 14) cx (by decide) rfl rfl dX10_wordHere_15 ?_
  refine f_iload_n (pc := 17) cx dX10_wordHere_17 rfl rfl ?_
  refine f_iload_n (pc := 18) cx dX10_wordHere_18 rfl rfl ?_
  refine f_iadd (pc := 19) cx dX10_wordHere_19 ?_
  refine f_need (fun c3 => ?_)
  refine k_X10_88 (pc := 20) cx (by decide : 14 < 17) c3 ⟨by decide, by decide⟩ ⟨Nat.zero_le _, Nat.zero_le _⟩ (Nat.le_of_ble_eq_true rfl) dX10_wordHere_20 ?_
  refine f_bipush (pc := 23) cx dX10_wordHere_23 kc_bipush_32 ?_
  refine f_icmp_eq (pc := 25) (tgt := 69) cx dX10_wordHere_25 (by decide) (fun _ => ?_) (fun _ => ?_)
  · exact f_weak (LSb.s (LSb.s (LSb.s (LSb.s LSb.e)))) (s_X10_wordHere_69 cx hr hlk _ o0 x1 x2 q.2 hk_o0 k4 hk4)
  · refine f_aload_n (pc := 28) cx dX10_wordHere_28 rfl rfl ?_
    refine g_X10_61 (pc := 29) cx hk_o0 dX10_wordHere_29 ?_
    refine f_iload_n (pc := 32) cx dX10_wordHere_32 rfl rfl ?_
    refine f_iadd (pc := 33) cx dX10_wordHere_33 ?_
    refine f_aload_n (pc := 34) cx dX10_wordHere_34 rfl rfl ?_
    refine g_X10_51 (pc := 35) cx hk_o0 dX10_wordHere_35 ?_
    refine f_icmp_ge (pc := 38) (tgt := 69) cx dX10_wordHere_38 (by decide) (fun _ => ?_) (fun _ => ?_)
    · exact f_weak (LSb.s (LSb.s (LSb.s (LSb.s LSb.e)))) (s_X10_wordHere_69 cx hr hlk _ o0 x1 x2 q.2 hk_o0 k4 hk4)
    · refine f_aload_n (pc := 41) cx dX10_wordHere_41 rfl rfl ?_
      refine g_X10_7 (pc := 42) cx hk_o0 dX10_wordHere_42 ?_
      refine f_aload_n (pc := 45) cx dX10_wordHere_45 rfl rfl ?_
      refine g_X10_61 (pc := 46) cx hk_o0 dX10_wordHere_46 ?_
      refine f_iload_n (pc := 49) cx dX10_wordHere_49 rfl rfl ?_
      refine f_iadd (pc := 50) cx dX10_wordHere_50 ?_
      refine f_need (fun c4 => ?_)
      refine f_iald (pc := 51) (n := 900) cx (kf_9_1 hk_o0) (by decide) c4 dX10_wordHere_51 ?_
      refine f_ldcS (pc := 52) (j := 14) cx (by decide) rfl rfl dX10_wordHere_52 ?_
      refine f_iload_n (pc := 54) cx dX10_wordHere_54 rfl rfl ?_
      refine f_iload_n (pc := 55) cx dX10_wordHere_55 rfl rfl ?_
      refine f_iadd (pc := 56) cx dX10_wordHere_56 ?_
      refine f_need (fun c5 => ?_)
      refine k_X10_88 (pc := 57) cx (by decide : 14 < 17) c5 ⟨by decide, by decide⟩ ⟨Nat.zero_le _, Nat.zero_le _⟩ (Nat.le_of_ble_eq_true rfl) dX10_wordHere_57 ?_
      refine f_icmp_ne (pc := 60) (tgt := 69) cx dX10_wordHere_60 (by decide) (fun _ => ?_) (fun _ => ?_)
      · refine f_iinc3 (pc := 63) cx dX10_wordHere_63 kc_iconst_1 (by decide) rfl ?_
        refine f_goto (pc := 66) (tgt := 15) cx dX10_wordHere_66 (by decide) ?_
        exact f_weak (LSb.s (LSb.s (LSb.s (LSb.s LSb.e)))) (hk15 (q.1, q.2 + 1))
      · exact f_weak (LSb.s (LSb.s (LSb.s (LSb.s LSb.e)))) (s_X10_wordHere_69 cx hr hlk _ o0 x1 x2 q.2 hk_o0 k4 hk4)
set_option maxRecDepth 4000 in
theorem s_X10_wordHere_4 {p : Program} {l : Launch} {e : Env} {s : State} {m : MethodId} {args : Array Value} {below : List Frame} {meth : Method} {c : Code} {G : GT} (cx : CX p s m args c cX10_wordHere 4 RX10 G) (hr : meth.sig.returnType = (some .int)) (hlk : meth.locks = false) (o0 : Nat) (hk_o0 : kd o0 = 9) : ∀ (n : Nat) (q : Hp × Int32 × Int32), PF p l e (rmc 4 85) s m args below meth c 4 G 0 0 (QI below G args s) 4 [some (.ref (gad G o0)), some (.int q.2.1), some (.int q.2.2), none] [] q.1 (lp (b_X10_wordHere_4 o0) n q) := by
  refine f_lp (lvf := fun (q : Hp × Int32 × Int32) => [some (.ref (gad G o0)), some (.int q.2.1), some (.int q.2.2), none]) (hf := fun (q : Hp × Int32 × Int32) => q.1) (fun k4 hk4 q => ?_)
  show PF p l e (rmc 4 85) s m args below meth c 4 G 0 0 (QI below G args s) 4 [some (.ref (gad G o0)), some (.int q.2.1), some (.int q.2.2), none] [] q.1 (b_X10_wordHere_4 o0 k4 q)
  unfold b_X10_wordHere_4
  refine f_iload_n (pc := 4) cx dX10_wordHere_4 rfl rfl ?_
  refine f_ldcS (pc := 5) (j := 14) cx (by decide) rfl rfl dX10_wordHere_5 ?_
  refine k_X10_83 (pc := 7) cx (by decide : 14 < 17) ⟨by decide, by decide⟩ ⟨Nat.zero_le _, Nat.zero_le _⟩ (Nat.le_of_ble_eq_true rfl) dX10_wordHere_7 ?_
  refine f_icmp_ge (pc := 10) (tgt := 123) cx dX10_wordHere_10 (by decide) (fun _ => ?_) (fun _ => ?_)
  · refine f_iconst (pc := 123) cx dX10_wordHere_123 kc_iconst_m1 ?_
    exact f_iret cx hr hlk rfl dX10_wordHere_124
  · refine f_iconst (pc := 13) cx dX10_wordHere_13 kc_iconst_0 ?_
    refine f_istore3 (pc := 14) cx dX10_wordHere_14 (by decide) rfl ?_
    exact f_weak (LSb.s (LSb.s (LSb.s (LSb.s LSb.e)))) (s_X10_wordHere_15 cx hr hlk o0 q.2.1 q.2.2 hk_o0 k4 hk4 FU (q.1, 0))
set_option maxRecDepth 4000 in
theorem s_X10_wordHere {p : Program} {l : Launch} {e : Env} {s : State} {m : MethodId} {args : Array Value} {below : List Frame} {meth : Method} {c : Code} {G : GT} (cx : CX p s m args c cX10_wordHere 4 RX10 G) (hr : meth.sig.returnType = (some .int)) (hlk : meth.locks = false) (h : Hp) (o0 : Nat) (hk_o0 : kd o0 = 9) : PF p l e (rmc 4 85) s m args below meth c 4 G 0 0 (QI below G args s) 0 [some (.ref (gad G o0)), none, none, none] [] h (p_X10_wordHere h o0) := by
  unfold p_X10_wordHere
  refine f_iconst (pc := 0) cx dX10_wordHere_0 kc_iconst_0 ?_
  refine f_istore1 (pc := 1) cx dX10_wordHere_1 (by decide) rfl ?_
  refine f_iconst (pc := 2) cx dX10_wordHere_2 kc_iconst_0 ?_
  refine f_istore2 (pc := 3) cx dX10_wordHere_3 (by decide) rfl ?_
  exact f_weak (LSb.s (LSb.s (LSb.s (LSb.n LSb.e)))) (s_X10_wordHere_4 cx hr hlk o0 hk_o0 FU (h, 0, 0))
set_option maxRecDepth 4000 in
theorem c_X10_wordHere (l : Launch) (G : GT) (h : Hp) (o0 : Nat) (hk_o0 : kd o0 = 9) : CtI l G yX10_wordHere cX10_wordHere 4 (some .int) 4 85 [.ref (gad G o0)] h (p_X10_wordHere h o0) := fun a ha => Ct.of (lv := [some (.ref (gad G o0)), none, none, none]) (by decide) rfl (Nat.le_of_ble_eq_true rfl) rfl (fun p e s m args below meth c cx hr hlk => s_X10_wordHere cx hr hlk h o0 hk_o0 a ha)
def b_X10_token_132 (o0 : Nat) (k132 : Hp → Option Hp) (q : Hp) : Option Hp :=
  Option.bind (p_X10_here q o0) fun r1 => Option.bind (p_X10_isDigit r1.2 r1.1) fun r2 => if r2.1 = 0 then (some r2.2) else (if (r2.2 o0 15) ≤ 99999 then (Option.bind (p_X10_here r2.2 o0) fun r3 => nv (hp r3.2 o0 15 (((10 * (r2.2 o0 15)) + r3.1) - 48)) fun h4 => nv (hp h4 o0 12 ((h4 o0 12) + 1)) fun h5 => k132 h5) else (nv (hp r2.2 o0 15 (r2.2 o0 15)) fun h6 => nv (hp h6 o0 12 ((h6 o0 12) + 1)) fun h7 => k132 h7))
def b_X10_token_64 (o0 : Nat) (k64 : Hp → Option Hp) (q : Hp) : Option Hp :=
  Option.bind (p_X10_here q o0) fun r8 => Option.bind (p_X10_isSmall r8.2 r8.1) fun r9 => if r9.1 = 0 then (Option.bind (p_X10_wordHere r9.2 o0) fun r10 => nv (hp r10.2 o0 15 r10.1) fun h11 => if (h11 o0 15) = (-1) then (nv (hp h11 o0 14 4) fun h12 => some h12) else (nv (hp h11 o0 14 0) fun h13 => some h13)) else (nv (hp r9.2 o0 12 ((r9.2 o0 12) + 1)) fun h14 => k64 h14)
def b_X10_token_0 (o0 : Nat) (k0 : Hp → Option Hp) (q : Hp) : Option Hp :=
  Option.bind (p_X10_here q o0) fun r15 => if r15.1 = 10 then (nv (hp r15.2 o0 12 ((r15.2 o0 12) + 1)) fun h16 => k0 h16) else (Option.bind (p_X10_here r15.2 o0) fun r17 => if r17.1 = 32 then (nv (hp r17.2 o0 12 ((r17.2 o0 12) + 1)) fun h18 => k0 h18) else (nv (hp r17.2 o0 13 (r17.2 o0 12)) fun h19 => Option.bind (p_X10_here h19 o0) fun r20 => if r20.1 = (-1) then (nv (hp r20.2 o0 14 3) fun h21 => some h21) else (Option.bind (p_X10_isSmall r20.2 r20.1) fun r22 => if r22.1 = 0 then (Option.bind (p_X10_isDigit r22.2 r20.1) fun r23 => if r23.1 = 0 then (if r20.1 = 59 then (nv (hp r23.2 o0 14 2) fun h24 => nv (hp h24 o0 12 ((h24 o0 12) + 1)) fun h25 => some h25) else (nv (hp r23.2 o0 14 4) fun h26 => nv (hp h26 o0 12 ((h26 o0 12) + 1)) fun h27 => some h27)) else (nv (hp r23.2 o0 14 1) fun h28 => nv (hp h28 o0 15 0) fun h29 => lp (b_X10_token_132 o0) FU h29)) else (lp (b_X10_token_64 o0) FU r22.2))))
def p_X10_token (h : Hp) (o0 : Nat) : Option Hp :=
  lp (b_X10_token_0 o0) FU h
set_option maxRecDepth 4000 in
theorem s_X10_token_132 {p : Program} {l : Launch} {e : Env} {s : State} {m : MethodId} {args : Array Value} {below : List Frame} {meth : Method} {c : Code} {G : GT} (cx : CX p s m args c cX10_token 2 RX10 G) (hr : meth.sig.returnType = none) (hlk : meth.locks = false) (o0 : Nat) (hk_o0 : kd o0 = 9) : ∀ (n : Nat) (q : Hp), PF p l e (rmc 5 108) s m args below meth c 2 G 0 0 (QV below G args s) 132 [some (.ref (gad G o0)), none] [] q (lp (b_X10_token_132 o0) n q) := by
  refine f_lp (lvf := fun (q : Hp) => [some (.ref (gad G o0)), none]) (hf := fun (q : Hp) => q) (fun k132 hk132 q => ?_)
  show PF p l e (rmc 5 108) s m args below meth c 2 G 0 0 (QV below G args s) 132 [some (.ref (gad G o0)), none] [] q (b_X10_token_132 o0 k132 q)
  unfold b_X10_token_132
  refine f_aload_n (pc := 132) cx dX10_token_132 rfl rfl ?_
  refine f_bind (fun r1 hr1 => ?_)
  refine k_X10_57 (pc := 133) cx (c_X10_here l G _ o0 hk_o0 r1 hr1) hk_o0 ⟨by decide, by decide⟩ ⟨Nat.zero_le _, Nat.zero_le _⟩ (Nat.le_of_ble_eq_true rfl) dX10_token_133 ?_
  refine f_bind (fun r2 hr2 => ?_)
  refine k_X10_77 (pc := 136) cx (c_X10_isDigit l G _ r1.1 r2 hr2) ⟨by decide, by decide⟩ ⟨Nat.zero_le _, Nat.zero_le _⟩ (Nat.le_of_ble_eq_true rfl) dX10_token_136 ?_
  refine f_if_eq (pc := 139) (tgt := 215) cx dX10_token_139 (by decide) (fun _ => ?_) (fun _ => ?_)
  · exact f_vret cx hr hlk dX10_token_215
  · refine f_aload_n (pc := 142) cx dX10_token_142 rfl rfl ?_
    refine f_aload_n (pc := 143) cx dX10_token_143 rfl rfl ?_
    refine g_X10_74 (pc := 144) cx hk_o0 dX10_token_144 ?_
    refine f_ldc (pc := 147) cx w_1423 dX10_token_147 ?_
    refine f_icmp_le (pc := 149) (tgt := 159) cx dX10_token_149 (by decide) (fun _ => ?_) (fun _ => ?_)
    · refine f_bipush (pc := 159) cx dX10_token_159 kc_bipush_10 ?_
      refine f_aload_n (pc := 161) cx dX10_token_161 rfl rfl ?_
      refine g_X10_74 (pc := 162) cx hk_o0 dX10_token_162 ?_
      refine f_imul (pc := 165) cx dX10_token_165 ?_
      refine f_aload_n (pc := 166) cx dX10_token_166 rfl rfl ?_
      refine f_bind (fun r3 hr3 => ?_)
      refine k_X10_57 (pc := 167) cx (c_X10_here l G _ o0 hk_o0 r3 hr3) hk_o0 ⟨by decide, by decide⟩ ⟨Nat.zero_le _, Nat.zero_le _⟩ (Nat.le_of_ble_eq_true rfl) dX10_token_167 ?_
      refine f_iadd (pc := 170) cx dX10_token_170 ?_
      refine f_bipush (pc := 171) cx dX10_token_171 kc_bipush_48 ?_
      refine f_isub (pc := 173) cx dX10_token_173 ?_
      refine u_X10_74 (pc := 174) cx hk_o0 dX10_token_174 ?_
      refine f_nvh (fun h4 => ?_)
      refine f_aload_n (pc := 177) cx dX10_token_177 rfl rfl ?_
      refine f_dup (pc := 178) cx dX10_token_178 rfl ?_
      refine g_X10_51 (pc := 179) cx hk_o0 dX10_token_179 ?_
      refine f_iconst (pc := 182) cx dX10_token_182 kc_iconst_1 ?_
      refine f_iadd (pc := 183) cx dX10_token_183 ?_
      refine u_X10_51 (pc := 184) cx hk_o0 dX10_token_184 ?_
      refine f_nvh (fun h5 => ?_)
      refine f_goto (pc := 187) (tgt := 132) cx dX10_token_187 (by decide) ?_
      exact f_weak (LSb.s (LSb.n LSb.e)) (hk132 h5)
    · refine f_aload_n (pc := 152) cx dX10_token_152 rfl rfl ?_
      refine g_X10_74 (pc := 153) cx hk_o0 dX10_token_153 ?_
      refine f_goto (pc := 156) (tgt := 174) cx dX10_token_156 (by decide) ?_
      refine u_X10_74 (pc := 174) cx hk_o0 dX10_token_174 ?_
      refine f_nvh (fun h6 => ?_)
      refine f_aload_n (pc := 177) cx dX10_token_177 rfl rfl ?_
      refine f_dup (pc := 178) cx dX10_token_178 rfl ?_
      refine g_X10_51 (pc := 179) cx hk_o0 dX10_token_179 ?_
      refine f_iconst (pc := 182) cx dX10_token_182 kc_iconst_1 ?_
      refine f_iadd (pc := 183) cx dX10_token_183 ?_
      refine u_X10_51 (pc := 184) cx hk_o0 dX10_token_184 ?_
      refine f_nvh (fun h7 => ?_)
      refine f_goto (pc := 187) (tgt := 132) cx dX10_token_187 (by decide) ?_
      exact f_weak (LSb.s (LSb.n LSb.e)) (hk132 h7)
set_option maxRecDepth 4000 in
theorem s_X10_token_64 {p : Program} {l : Launch} {e : Env} {s : State} {m : MethodId} {args : Array Value} {below : List Frame} {meth : Method} {c : Code} {G : GT} (cx : CX p s m args c cX10_token 2 RX10 G) (hr : meth.sig.returnType = none) (hlk : meth.locks = false) (o0 : Nat) (hk_o0 : kd o0 = 9) : ∀ (n : Nat) (q : Hp), PF p l e (rmc 5 108) s m args below meth c 2 G 0 0 (QV below G args s) 64 [some (.ref (gad G o0)), none] [] q (lp (b_X10_token_64 o0) n q) := by
  refine f_lp (lvf := fun (q : Hp) => [some (.ref (gad G o0)), none]) (hf := fun (q : Hp) => q) (fun k64 hk64 q => ?_)
  show PF p l e (rmc 5 108) s m args below meth c 2 G 0 0 (QV below G args s) 64 [some (.ref (gad G o0)), none] [] q (b_X10_token_64 o0 k64 q)
  unfold b_X10_token_64
  refine f_aload_n (pc := 64) cx dX10_token_64 rfl rfl ?_
  refine f_bind (fun r8 hr8 => ?_)
  refine k_X10_57 (pc := 65) cx (c_X10_here l G _ o0 hk_o0 r8 hr8) hk_o0 ⟨by decide, by decide⟩ ⟨Nat.zero_le _, Nat.zero_le _⟩ (Nat.le_of_ble_eq_true rfl) dX10_token_65 ?_
  refine f_bind (fun r9 hr9 => ?_)
  refine k_X10_67 (pc := 68) cx (c_X10_isSmall l G _ r8.1 r9 hr9) ⟨by decide, by decide⟩ ⟨Nat.zero_le _, Nat.zero_le _⟩ (Nat.le_of_ble_eq_true rfl) dX10_token_68 ?_
  refine f_if_eq (pc := 71) (tgt := 87) cx dX10_token_71 (by decide) (fun _ => ?_) (fun _ => ?_)
  · refine f_aload_n (pc := 87) cx dX10_token_87 rfl rfl ?_
    refine f_aload_n (pc := 88) cx dX10_token_88 rfl rfl ?_
    refine f_bind (fun r10 hr10 => ?_)
    refine k_X10_71 (pc := 89) cx (c_X10_wordHere l G _ o0 hk_o0 r10 hr10) hk_o0 ⟨by decide, by decide⟩ ⟨Nat.zero_le _, Nat.zero_le _⟩ (Nat.le_of_ble_eq_true rfl) dX10_token_89 ?_
    refine u_X10_74 (pc := 92) cx hk_o0 dX10_token_92 ?_
    refine f_nvh (fun h11 => ?_)
    refine f_aload_n (pc := 95) cx dX10_token_95 rfl rfl ?_
    refine f_aload_n (pc := 96) cx dX10_token_96 rfl rfl ?_
    refine g_X10_74 (pc := 97) cx hk_o0 dX10_token_97 ?_
    refine f_iconst (pc := 100) cx dX10_token_100 kc_iconst_m1 ?_
    refine f_icmp_eq (pc := 101) (tgt := 108) cx dX10_token_101 (by decide) (fun _ => ?_) (fun _ => ?_)
    · refine f_iconst (pc := 108) cx dX10_token_108 kc_iconst_4 ?_
      refine u_X10_64 (pc := 109) cx hk_o0 dX10_token_109 ?_
      refine f_nvh (fun h12 => ?_)
      refine f_goto (pc := 112) (tgt := 215) cx dX10_token_112 (by decide) ?_
      exact f_vret cx hr hlk dX10_token_215
    · refine f_iconst (pc := 104) cx dX10_token_104 kc_iconst_0 ?_
      refine f_goto (pc := 105) (tgt := 109) cx dX10_token_105 (by decide) ?_
      refine u_X10_64 (pc := 109) cx hk_o0 dX10_token_109 ?_
      refine f_nvh (fun h13 => ?_)
      refine f_goto (pc := 112) (tgt := 215) cx dX10_token_112 (by decide) ?_
      exact f_vret cx hr hlk dX10_token_215
  · refine f_aload_n (pc := 74) cx dX10_token_74 rfl rfl ?_
    refine f_dup (pc := 75) cx dX10_token_75 rfl ?_
    refine g_X10_51 (pc := 76) cx hk_o0 dX10_token_76 ?_
    refine f_iconst (pc := 79) cx dX10_token_79 kc_iconst_1 ?_
    refine f_iadd (pc := 80) cx dX10_token_80 ?_
    refine u_X10_51 (pc := 81) cx hk_o0 dX10_token_81 ?_
    refine f_nvh (fun h14 => ?_)
    refine f_goto (pc := 84) (tgt := 64) cx dX10_token_84 (by decide) ?_
    exact f_weak (LSb.s (LSb.n LSb.e)) (hk64 h14)
set_option maxRecDepth 4000 in
theorem s_X10_token_0 {p : Program} {l : Launch} {e : Env} {s : State} {m : MethodId} {args : Array Value} {below : List Frame} {meth : Method} {c : Code} {G : GT} (cx : CX p s m args c cX10_token 2 RX10 G) (hr : meth.sig.returnType = none) (hlk : meth.locks = false) (o0 : Nat) (hk_o0 : kd o0 = 9) : ∀ (n : Nat) (q : Hp), PF p l e (rmc 5 108) s m args below meth c 2 G 0 0 (QV below G args s) 0 [some (.ref (gad G o0)), none] [] q (lp (b_X10_token_0 o0) n q) := by
  refine f_lp (lvf := fun (q : Hp) => [some (.ref (gad G o0)), none]) (hf := fun (q : Hp) => q) (fun k0 hk0 q => ?_)
  show PF p l e (rmc 5 108) s m args below meth c 2 G 0 0 (QV below G args s) 0 [some (.ref (gad G o0)), none] [] q (b_X10_token_0 o0 k0 q)
  unfold b_X10_token_0
  refine f_aload_n (pc := 0) cx dX10_token_0 rfl rfl ?_
  refine f_bind (fun r15 hr15 => ?_)
  refine k_X10_57 (pc := 1) cx (c_X10_here l G _ o0 hk_o0 r15 hr15) hk_o0 ⟨by decide, by decide⟩ ⟨Nat.zero_le _, Nat.zero_le _⟩ (Nat.le_of_ble_eq_true rfl) dX10_token_1 ?_
  refine f_bipush (pc := 4) cx dX10_token_4 kc_bipush_10 ?_
  refine f_icmp_eq (pc := 6) (tgt := 18) cx dX10_token_6 (by decide) (fun _ => ?_) (fun _ => ?_)
  · refine f_aload_n (pc := 18) cx dX10_token_18 rfl rfl ?_
    refine f_dup (pc := 19) cx dX10_token_19 rfl ?_
    refine g_X10_51 (pc := 20) cx hk_o0 dX10_token_20 ?_
    refine f_iconst (pc := 23) cx dX10_token_23 kc_iconst_1 ?_
    refine f_iadd (pc := 24) cx dX10_token_24 ?_
    refine u_X10_51 (pc := 25) cx hk_o0 dX10_token_25 ?_
    refine f_nvh (fun h16 => ?_)
    refine f_goto (pc := 28) (tgt := 0) cx dX10_token_28 (by decide) ?_
    exact f_weak (LSb.s (LSb.n LSb.e)) (hk0 h16)
  · refine f_aload_n (pc := 9) cx dX10_token_9 rfl rfl ?_
    refine f_bind (fun r17 hr17 => ?_)
    refine k_X10_57 (pc := 10) cx (c_X10_here l G _ o0 hk_o0 r17 hr17) hk_o0 ⟨by decide, by decide⟩ ⟨Nat.zero_le _, Nat.zero_le _⟩ (Nat.le_of_ble_eq_true rfl) dX10_token_10 ?_
    refine f_bipush (pc := 13) cx dX10_token_13 kc_bipush_32 ?_
    refine f_icmp_ne (pc := 15) (tgt := 31) cx dX10_token_15 (by decide) (fun _ => ?_) (fun _ => ?_)
    · refine f_aload_n (pc := 18) cx dX10_token_18 rfl rfl ?_
      refine f_dup (pc := 19) cx dX10_token_19 rfl ?_
      refine g_X10_51 (pc := 20) cx hk_o0 dX10_token_20 ?_
      refine f_iconst (pc := 23) cx dX10_token_23 kc_iconst_1 ?_
      refine f_iadd (pc := 24) cx dX10_token_24 ?_
      refine u_X10_51 (pc := 25) cx hk_o0 dX10_token_25 ?_
      refine f_nvh (fun h18 => ?_)
      refine f_goto (pc := 28) (tgt := 0) cx dX10_token_28 (by decide) ?_
      exact f_weak (LSb.s (LSb.n LSb.e)) (hk0 h18)
    · refine f_aload_n (pc := 31) cx dX10_token_31 rfl rfl ?_
      refine f_aload_n (pc := 32) cx dX10_token_32 rfl rfl ?_
      refine g_X10_51 (pc := 33) cx hk_o0 dX10_token_33 ?_
      refine u_X10_61 (pc := 36) cx hk_o0 dX10_token_36 ?_
      refine f_nvh (fun h19 => ?_)
      refine f_aload_n (pc := 39) cx dX10_token_39 rfl rfl ?_
      refine f_bind (fun r20 hr20 => ?_)
      refine k_X10_57 (pc := 40) cx (c_X10_here l G _ o0 hk_o0 r20 hr20) hk_o0 ⟨by decide, by decide⟩ ⟨Nat.zero_le _, Nat.zero_le _⟩ (Nat.le_of_ble_eq_true rfl) dX10_token_40 ?_
      refine f_istore1 (pc := 43) cx dX10_token_43 (by decide) rfl ?_
      refine f_iload_n (pc := 44) cx dX10_token_44 rfl rfl ?_
      refine f_iconst (pc := 45) cx dX10_token_45 kc_iconst_m1 ?_
      refine f_icmp_ne (pc := 46) (tgt := 57) cx dX10_token_46 (by decide) (fun _ => ?_) (fun _ => ?_)
      · refine f_aload_n (pc := 49) cx dX10_token_49 rfl rfl ?_
        refine f_iconst (pc := 50) cx dX10_token_50 kc_iconst_3 ?_
        refine u_X10_64 (pc := 51) cx hk_o0 dX10_token_51 ?_
        refine f_nvh (fun h21 => ?_)
        refine f_goto (pc := 54) (tgt := 215) cx dX10_token_54 (by decide) ?_
        exact f_vret cx hr hlk dX10_token_215
      · refine f_iload_n (pc := 57) cx dX10_token_57 rfl rfl ?_
        refine f_bind (fun r22 hr22 => ?_)
        refine k_X10_67 (pc := 58) cx (c_X10_isSmall l G _ r20.1 r22 hr22) ⟨by decide, by decide⟩ ⟨Nat.zero_le _, Nat.zero_le _⟩ (Nat.le_of_ble_eq_true rfl) dX10_token_58 ?_
        refine f_if_eq (pc := 61) (tgt := 115) cx dX10_token_61 (by decide) (fun _ => ?_) (fun _ => ?_)
        · refine f_iload_n (pc := 115) cx dX10_token_115 rfl rfl ?_
          refine f_bind (fun r23 hr23 => ?_)
          refine k_X10_77 (pc := 116) cx (c_X10_isDigit l G _ r20.1 r23 hr23) ⟨by decide, by decide⟩ ⟨Nat.zero_le _, Nat.zero_le _⟩ (Nat.le_of_ble_eq_true rfl) dX10_token_116 ?_
          refine f_if_eq (pc := 119) (tgt := 190) cx dX10_token_119 (by decide) (fun _ => ?_) (fun _ => ?_)
          · refine f_aload_n (pc := 190) cx dX10_token_190 rfl rfl ?_
            refine f_iload_n (pc := 191) cx dX10_token_191 rfl rfl ?_
            refine f_bipush (pc := 192) cx dX10_token_192 kc_bipush_59 ?_
            refine f_icmp_ne (pc := 194) (tgt := 201) cx dX10_token_194 (by decide) (fun _ => ?_) (fun _ => ?_)
            · refine f_iconst (pc := 197) cx dX10_token_197 kc_iconst_2 ?_
              refine f_goto (pc := 198) (tgt := 202) cx dX10_token_198 (by decide) ?_
              refine u_X10_64 (pc := 202) cx hk_o0 dX10_token_202 ?_
              refine f_nvh (fun h24 => ?_)
              refine f_aload_n (pc := 205) cx dX10_token_205 rfl rfl ?_
              refine f_dup (pc := 206) cx dX10_token_206 rfl ?_
              refine g_X10_51 (pc := 207) cx hk_o0 dX10_token_207 ?_
              refine f_iconst (pc := 210) cx dX10_token_210 kc_iconst_1 ?_
              refine f_iadd (pc := 211) cx dX10_token_211 ?_
              refine u_X10_51 (pc := 212) cx hk_o0 dX10_token_212 ?_
              refine f_nvh (fun h25 => ?_)
              exact f_vret cx hr hlk dX10_token_215
            · refine f_iconst (pc := 201) cx dX10_token_201 kc_iconst_4 ?_
              refine u_X10_64 (pc := 202) cx hk_o0 dX10_token_202 ?_
              refine f_nvh (fun h26 => ?_)
              refine f_aload_n (pc := 205) cx dX10_token_205 rfl rfl ?_
              refine f_dup (pc := 206) cx dX10_token_206 rfl ?_
              refine g_X10_51 (pc := 207) cx hk_o0 dX10_token_207 ?_
              refine f_iconst (pc := 210) cx dX10_token_210 kc_iconst_1 ?_
              refine f_iadd (pc := 211) cx dX10_token_211 ?_
              refine u_X10_51 (pc := 212) cx hk_o0 dX10_token_212 ?_
              refine f_nvh (fun h27 => ?_)
              exact f_vret cx hr hlk dX10_token_215
          · refine f_aload_n (pc := 122) cx dX10_token_122 rfl rfl ?_
            refine f_iconst (pc := 123) cx dX10_token_123 kc_iconst_1 ?_
            refine u_X10_64 (pc := 124) cx hk_o0 dX10_token_124 ?_
            refine f_nvh (fun h28 => ?_)
            refine f_aload_n (pc := 127) cx dX10_token_127 rfl rfl ?_
            refine f_iconst (pc := 128) cx dX10_token_128 kc_iconst_0 ?_
            refine u_X10_74 (pc := 129) cx hk_o0 dX10_token_129 ?_
            refine f_nvh (fun h29 => ?_)
            exact f_weak (LSb.s (LSb.n LSb.e)) (s_X10_token_132 cx hr hlk o0 hk_o0 FU h29)
        · exact f_weak (LSb.s (LSb.n LSb.e)) (s_X10_token_64 cx hr hlk o0 hk_o0 FU r22.2)
set_option maxRecDepth 4000 in
theorem s_X10_token {p : Program} {l : Launch} {e : Env} {s : State} {m : MethodId} {args : Array Value} {below : List Frame} {meth : Method} {c : Code} {G : GT} (cx : CX p s m args c cX10_token 2 RX10 G) (hr : meth.sig.returnType = none) (hlk : meth.locks = false) (h : Hp) (o0 : Nat) (hk_o0 : kd o0 = 9) : PF p l e (rmc 5 108) s m args below meth c 2 G 0 0 (QV below G args s) 0 [some (.ref (gad G o0)), none] [] h (p_X10_token h o0) := by
  unfold p_X10_token
  exact f_weak (LSb.s (LSb.n LSb.e)) (s_X10_token_0 cx hr hlk o0 hk_o0 FU h)
set_option maxRecDepth 4000 in
theorem c_X10_token (l : Launch) (G : GT) (h : Hp) (o0 : Nat) (hk_o0 : kd o0 = 9) : CtV l G yX10_token cX10_token 2 none 5 108 [.ref (gad G o0)] h (p_X10_token h o0) := fun a ha => Ct.of (lv := [some (.ref (gad G o0)), none]) (by decide) rfl (Nat.le_of_ble_eq_true rfl) rfl (fun p e s m args below meth c cx hr hlk => s_X10_token cx hr hlk h o0 hk_o0 a ha)
def p_X10_goOn (h : Hp) (o0 : Nat) : Option Hp :=
  if (h o0 16) = 0 then (Option.bind (p_X10_token h o0) fun r1 => some r1) else (some h)
set_option maxRecDepth 4000 in
theorem s_X10_goOn {p : Program} {l : Launch} {e : Env} {s : State} {m : MethodId} {args : Array Value} {below : List Frame} {meth : Method} {c : Code} {G : GT} (cx : CX p s m args c cX10_goOn 1 RX10 G) (hr : meth.sig.returnType = none) (hlk : meth.locks = false) (h : Hp) (o0 : Nat) (hk_o0 : kd o0 = 9) : PF p l e (rmc 6 129) s m args below meth c 1 G 0 0 (QV below G args s) 0 [some (.ref (gad G o0))] [] h (p_X10_goOn h o0) := by
  unfold p_X10_goOn
  refine f_aload_n (pc := 0) cx dX10_goOn_0 rfl rfl ?_
  refine g_X10_92 (pc := 1) cx hk_o0 dX10_goOn_1 ?_
  refine f_if_ne (pc := 4) (tgt := 11) cx dX10_goOn_4 (by decide) (fun _ => ?_) (fun _ => ?_)
  · refine f_aload_n (pc := 7) cx dX10_goOn_7 rfl rfl ?_
    refine f_bind (fun r1 hr1 => ?_)
    refine k_X10_98 (pc := 8) cx (c_X10_token l G _ o0 hk_o0 r1 hr1) hk_o0 ⟨by decide, by decide⟩ ⟨Nat.zero_le _, Nat.zero_le _⟩ (Nat.le_of_ble_eq_true rfl) dX10_goOn_8 ?_
    exact f_vret cx hr hlk dX10_goOn_11
  · exact f_vret cx hr hlk dX10_goOn_11
set_option maxRecDepth 4000 in
theorem c_X10_goOn (l : Launch) (G : GT) (h : Hp) (o0 : Nat) (hk_o0 : kd o0 = 9) : CtV l G yX10_goOn cX10_goOn 1 none 6 129 [.ref (gad G o0)] h (p_X10_goOn h o0) := fun a ha => Ct.of (lv := [some (.ref (gad G o0))]) (by decide) rfl (Nat.le_of_ble_eq_true rfl) rfl (fun p e s m args below meth c cx hr hlk => s_X10_goOn cx hr hlk h o0 hk_o0 a ha)
def q_X10_numeral_46 (h : Hp) (o0 : Nat) (x1 : Int32) : Option (Int32 × Hp) :=
  if (h o0 16) = 0 then (nv (h o0 15) fun v1 => Option.bind (p_X10_goOn h o0) fun r2 => some (v1, r2)) else (Option.bind (p_X10_goOn h o0) fun r3 => some (x1, r3))
def p_X10_numeral (h : Hp) (o0 : Nat) (x1 : Int32) (x2 : Int32) : Option (Int32 × Hp) :=
  if (h o0 16) = 0 then (if (h o0 14) = 1 then (if (h o0 15) < x1 then (Option.bind (p_X10_wrong h o0 2) fun r4 => q_X10_numeral_46 r4 o0 x1) else (if (h o0 15) ≤ x2 then (q_X10_numeral_46 h o0 x1) else (Option.bind (p_X10_wrong h o0 2) fun r5 => q_X10_numeral_46 r5 o0 x1))) else (Option.bind (p_X10_wrong h o0 1) fun r6 => q_X10_numeral_46 r6 o0 x1)) else (some (x1, h))
set_option maxRecDepth 4000 in
theorem s_X10_numeral_46 {p : Program} {l : Launch} {e : Env} {s : State} {m : MethodId} {args : Array Value} {below : List Frame} {meth : Method} {c : Code} {G : GT} (cx : CX p s m args c cX10_numeral 4 RX10 G) (hr : meth.sig.returnType = (some .int)) (hlk : meth.locks = false) (h : Hp) (o0 : Nat) (x1 : Int32) (hk_o0 : kd o0 = 9) : PF p l e (rmc 7 149) s m args below meth c 4 G 0 0 (QI below G args s) 46 [some (.ref (gad G o0)), some (.int x1), none, none] [] h (q_X10_numeral_46 h o0 x1) := by
  unfold q_X10_numeral_46
  refine f_aload_n (pc := 46) cx dX10_numeral_46 rfl rfl ?_
  refine g_X10_92 (pc := 47) cx hk_o0 dX10_numeral_47 ?_
  refine f_if_ne (pc := 50) (tgt := 60) cx dX10_numeral_50 (by decide) (fun _ => ?_) (fun _ => ?_)
  · refine f_aload_n (pc := 53) cx dX10_numeral_53 rfl rfl ?_
    refine g_X10_74 (pc := 54) cx hk_o0 dX10_numeral_54 ?_
    refine f_goto (pc := 57) (tgt := 61) cx dX10_numeral_57 (by decide) ?_
    refine f_nvi (fun v1 => ?_)
    refine f_istore3 (pc := 61) cx dX10_numeral_61 (by decide) rfl ?_
    refine f_aload_n (pc := 62) cx dX10_numeral_62 rfl rfl ?_
    refine f_bind (fun r2 hr2 => ?_)
    refine k_X10_105 (pc := 63) cx (c_X10_goOn l G _ o0 hk_o0 r2 hr2) hk_o0 ⟨by decide, by decide⟩ ⟨Nat.zero_le _, Nat.zero_le _⟩ (Nat.le_of_ble_eq_true rfl) dX10_numeral_63 ?_
    refine f_iload_n (pc := 66) cx dX10_numeral_66 rfl rfl ?_
    exact f_iret cx hr hlk rfl dX10_numeral_67
  · refine f_iload_n (pc := 60) cx dX10_numeral_60 rfl rfl ?_
    refine f_istore3 (pc := 61) cx dX10_numeral_61 (by decide) rfl ?_
    refine f_aload_n (pc := 62) cx dX10_numeral_62 rfl rfl ?_
    refine f_bind (fun r3 hr3 => ?_)
    refine k_X10_105 (pc := 63) cx (c_X10_goOn l G _ o0 hk_o0 r3 hr3) hk_o0 ⟨by decide, by decide⟩ ⟨Nat.zero_le _, Nat.zero_le _⟩ (Nat.le_of_ble_eq_true rfl) dX10_numeral_63 ?_
    refine f_iload_n (pc := 66) cx dX10_numeral_66 rfl rfl ?_
    exact f_iret cx hr hlk rfl dX10_numeral_67
set_option maxRecDepth 4000 in
theorem s_X10_numeral {p : Program} {l : Launch} {e : Env} {s : State} {m : MethodId} {args : Array Value} {below : List Frame} {meth : Method} {c : Code} {G : GT} (cx : CX p s m args c cX10_numeral 4 RX10 G) (hr : meth.sig.returnType = (some .int)) (hlk : meth.locks = false) (h : Hp) (o0 : Nat) (x1 : Int32) (x2 : Int32) (hk_o0 : kd o0 = 9) : PF p l e (rmc 7 149) s m args below meth c 4 G 0 0 (QI below G args s) 0 [some (.ref (gad G o0)), some (.int x1), some (.int x2), none] [] h (p_X10_numeral h o0 x1 x2) := by
  unfold p_X10_numeral
  refine f_aload_n (pc := 0) cx dX10_numeral_0 rfl rfl ?_
  refine g_X10_92 (pc := 1) cx hk_o0 dX10_numeral_1 ?_
  refine f_if_eq (pc := 4) (tgt := 9) cx dX10_numeral_4 (by decide) (fun _ => ?_) (fun _ => ?_)
  · refine f_aload_n (pc := 9) cx dX10_numeral_9 rfl rfl ?_
    refine g_X10_64 (pc := 10) cx hk_o0 dX10_numeral_10 ?_
    refine f_iconst (pc := 13) cx dX10_numeral_13 kc_iconst_1 ?_
    refine f_icmp_eq (pc := 14) (tgt := 25) cx dX10_numeral_14 (by decide) (fun _ => ?_) (fun _ => ?_)
    · refine f_aload_n (pc := 25) cx dX10_numeral_25 rfl rfl ?_
      refine g_X10_74 (pc := 26) cx hk_o0 dX10_numeral_26 ?_
      refine f_iload_n (pc := 29) cx dX10_numeral_29 rfl rfl ?_
      refine f_icmp_lt (pc := 30) (tgt := 41) cx dX10_numeral_30 (by decide) (fun _ => ?_) (fun _ => ?_)
      · refine f_aload_n (pc := 41) cx dX10_numeral_41 rfl rfl ?_
        refine f_iconst (pc := 42) cx dX10_numeral_42 kc_iconst_2 ?_
        refine f_bind (fun r4 hr4 => ?_)
        refine k_X10_101 (pc := 43) cx (c_X10_wrong l G _ o0 2 hk_o0 r4 hr4) hk_o0 ⟨by decide, by decide⟩ ⟨Nat.zero_le _, Nat.zero_le _⟩ (Nat.le_of_ble_eq_true rfl) dX10_numeral_43 ?_
        exact f_weak (LSb.s (LSb.s (LSb.n (LSb.n LSb.e)))) (s_X10_numeral_46 cx hr hlk _ o0 x1 hk_o0)
      · refine f_aload_n (pc := 33) cx dX10_numeral_33 rfl rfl ?_
        refine g_X10_74 (pc := 34) cx hk_o0 dX10_numeral_34 ?_
        refine f_iload_n (pc := 37) cx dX10_numeral_37 rfl rfl ?_
        refine f_icmp_le (pc := 38) (tgt := 46) cx dX10_numeral_38 (by decide) (fun _ => ?_) (fun _ => ?_)
        · exact f_weak (LSb.s (LSb.s (LSb.n (LSb.n LSb.e)))) (s_X10_numeral_46 cx hr hlk _ o0 x1 hk_o0)
        · refine f_aload_n (pc := 41) cx dX10_numeral_41 rfl rfl ?_
          refine f_iconst (pc := 42) cx dX10_numeral_42 kc_iconst_2 ?_
          refine f_bind (fun r5 hr5 => ?_)
          refine k_X10_101 (pc := 43) cx (c_X10_wrong l G _ o0 2 hk_o0 r5 hr5) hk_o0 ⟨by decide, by decide⟩ ⟨Nat.zero_le _, Nat.zero_le _⟩ (Nat.le_of_ble_eq_true rfl) dX10_numeral_43 ?_
          exact f_weak (LSb.s (LSb.s (LSb.n (LSb.n LSb.e)))) (s_X10_numeral_46 cx hr hlk _ o0 x1 hk_o0)
    · refine f_aload_n (pc := 17) cx dX10_numeral_17 rfl rfl ?_
      refine f_iconst (pc := 18) cx dX10_numeral_18 kc_iconst_1 ?_
      refine f_bind (fun r6 hr6 => ?_)
      refine k_X10_101 (pc := 19) cx (c_X10_wrong l G _ o0 1 hk_o0 r6 hr6) hk_o0 ⟨by decide, by decide⟩ ⟨Nat.zero_le _, Nat.zero_le _⟩ (Nat.le_of_ble_eq_true rfl) dX10_numeral_19 ?_
      refine f_goto (pc := 22) (tgt := 46) cx dX10_numeral_22 (by decide) ?_
      exact f_weak (LSb.s (LSb.s (LSb.n (LSb.n LSb.e)))) (s_X10_numeral_46 cx hr hlk _ o0 x1 hk_o0)
  · refine f_iload_n (pc := 7) cx dX10_numeral_7 rfl rfl ?_
    exact f_iret cx hr hlk rfl dX10_numeral_8
set_option maxRecDepth 4000 in
theorem c_X10_numeral (l : Launch) (G : GT) (h : Hp) (o0 : Nat) (x1 : Int32) (x2 : Int32) (hk_o0 : kd o0 = 9) : CtI l G yX10_numeral cX10_numeral 4 (some .int) 7 149 [.ref (gad G o0), .int x1, .int x2] h (p_X10_numeral h o0 x1 x2) := fun a ha => Ct.of (lv := [some (.ref (gad G o0)), some (.int x1), some (.int x2), none]) (by decide) rfl (Nat.le_of_ble_eq_true rfl) rfl (fun p e s m args below meth c cx hr hlk => s_X10_numeral cx hr hlk h o0 x1 x2 hk_o0 a ha)
def q_X10_setting_29 (h : Hp) (o0 : Nat) (x1 : Int32) : Option Hp :=
  if ib x1 8 then (nv (hp h (o0 + 3) (Int32.toNatClampNeg x1) 1) fun h2 => Option.bind (p_X10_goOn h2 o0) fun r3 => Option.bind (p_X10_leastOf r3 x1) fun r4 => Option.bind (p_X10_mostOf r4.2 x1) fun r5 => Option.bind (p_X10_numeral r5.2 o0 r4.1 r5.1) fun r6 => if ib x1 8 then (nv (hp r6.2 (o0 + 2) (Int32.toNatClampNeg x1) r6.1) fun h8 => some h8) else none) else none
def p_X10_setting (h : Hp) (o0 : Nat) (x1 : Int32) : Option Hp :=
  if (h o0 8) ≤ 0 then (if ib x1 8 then (if (h (o0 + 3) (Int32.toNatClampNeg x1)) = 0 then (q_X10_setting_29 h o0 x1) else (Option.bind (p_X10_wrong h o0 3) fun r10 => q_X10_setting_29 r10 o0 x1)) else none) else (Option.bind (p_X10_wrong h o0 1) fun r11 => q_X10_setting_29 r11 o0 x1)
set_option maxRecDepth 4000 in
theorem s_X10_setting_29 {p : Program} {l : Launch} {e : Env} {s : State} {m : MethodId} {args : Array Value} {below : List Frame} {meth : Method} {c : Code} {G : GT} (cx : CX p s m args c cX10_setting 2 RX10 G) (hr : meth.sig.returnType = none) (hlk : meth.locks = false) (h : Hp) (o0 : Nat) (x1 : Int32) (hk_o0 : kd o0 = 9) : PF p l e (rmc 8 172) s m args below meth c 2 G 0 0 (QV below G args s) 29 [some (.ref (gad G o0)), some (.int x1)] [] h (q_X10_setting_29 h o0 x1) := by
  unfold q_X10_setting_29
  refine f_aload_n (pc := 29) cx dX10_setting_29 rfl rfl ?_
  refine g_X10_16 (pc := 30) cx hk_o0 dX10_setting_30 ?_
  refine f_iload_n (pc := 33) cx dX10_setting_33 rfl rfl ?_
  refine f_iconst (pc := 34) cx dX10_setting_34 kc_iconst_1 ?_
  refine f_need (fun c1 => ?_)
  refine f_zast (pc := 35) (n := 8) cx (kf_9_4 hk_o0) (by decide) c1 (bb_v bb_1) dX10_setting_35 ?_
  refine f_nvh (fun h2 => ?_)
  refine f_aload_n (pc := 36) cx dX10_setting_36 rfl rfl ?_
  refine f_bind (fun r3 hr3 => ?_)
  refine k_X10_105 (pc := 37) cx (c_X10_goOn l G _ o0 hk_o0 r3 hr3) hk_o0 ⟨by decide, by decide⟩ ⟨Nat.zero_le _, Nat.zero_le _⟩ (Nat.le_of_ble_eq_true rfl) dX10_setting_37 ?_
  refine f_aload_n (pc := 40) cx dX10_setting_40 rfl rfl ?_
  refine g_X10_13 (pc := 41) cx hk_o0 dX10_setting_41 ?_
  refine f_iload_n (pc := 44) cx dX10_setting_44 rfl rfl ?_
  refine f_aload_n (pc := 45) cx dX10_setting_45 rfl rfl ?_
  refine f_iload_n (pc := 46) cx dX10_setting_46 rfl rfl ?_
  refine f_bind (fun r4 hr4 => ?_)
  refine k_X10_111 (pc := 47) cx (c_X10_leastOf l G _ x1 r4 hr4) ⟨by decide, by decide⟩ ⟨Nat.zero_le _, Nat.zero_le _⟩ (Nat.le_of_ble_eq_true rfl) dX10_setting_47 ?_
  refine f_iload_n (pc := 50) cx dX10_setting_50 rfl rfl ?_
  refine f_bind (fun r5 hr5 => ?_)
  refine k_X10_115 (pc := 51) cx (c_X10_mostOf l G _ x1 r5 hr5) ⟨by decide, by decide⟩ ⟨Nat.zero_le _, Nat.zero_le _⟩ (Nat.le_of_ble_eq_true rfl) dX10_setting_51 ?_
  refine f_bind (fun r6 hr6 => ?_)
  refine k_X10_118 (pc := 54) cx (c_X10_numeral l G _ o0 r4.1 r5.1 hk_o0 r6 hr6) hk_o0 ⟨by decide, by decide⟩ ⟨Nat.zero_le _, Nat.zero_le _⟩ (Nat.le_of_ble_eq_true rfl) dX10_setting_54 ?_
  refine f_need (fun c7 => ?_)
  refine f_iast (pc := 57) (n := 8) cx (kf_9_3 hk_o0) (by decide) c7 dX10_setting_57 ?_
  refine f_nvh (fun h8 => ?_)
  exact f_vret cx hr hlk dX10_setting_58
set_option maxRecDepth 4000 in
theorem s_X10_setting {p : Program} {l : Launch} {e : Env} {s : State} {m : MethodId} {args : Array Value} {below : List Frame} {meth : Method} {c : Code} {G : GT} (cx : CX p s m args c cX10_setting 2 RX10 G) (hr : meth.sig.returnType = none) (hlk : meth.locks = false) (h : Hp) (o0 : Nat) (x1 : Int32) (hk_o0 : kd o0 = 9) : PF p l e (rmc 8 172) s m args below meth c 2 G 0 0 (QV below G args s) 0 [some (.ref (gad G o0)), some (.int x1)] [] h (p_X10_setting h o0 x1) := by
  unfold p_X10_setting
  refine f_aload_n (pc := 0) cx dX10_setting_0 rfl rfl ?_
  refine g_X10_108 (pc := 1) cx hk_o0 dX10_setting_1 ?_
  refine f_if_le (pc := 4) (tgt := 15) cx dX10_setting_4 (by decide) (fun _ => ?_) (fun _ => ?_)
  · refine f_aload_n (pc := 15) cx dX10_setting_15 rfl rfl ?_
    refine g_X10_16 (pc := 16) cx hk_o0 dX10_setting_16 ?_
    refine f_iload_n (pc := 19) cx dX10_setting_19 rfl rfl ?_
    refine f_need (fun c9 => ?_)
    refine f_zald (pc := 20) (n := 8) cx (kf_9_4 hk_o0) (by decide) c9 dX10_setting_20 ?_
    refine f_if_eq (pc := 21) (tgt := 29) cx dX10_setting_21 (by decide) (fun _ => ?_) (fun _ => ?_)
    · exact f_weak (LSb.s (LSb.s LSb.e)) (s_X10_setting_29 cx hr hlk _ o0 x1 hk_o0)
    · refine f_aload_n (pc := 24) cx dX10_setting_24 rfl rfl ?_
      refine f_iconst (pc := 25) cx dX10_setting_25 kc_iconst_3 ?_
      refine f_bind (fun r10 hr10 => ?_)
      refine k_X10_101 (pc := 26) cx (c_X10_wrong l G _ o0 3 hk_o0 r10 hr10) hk_o0 ⟨by decide, by decide⟩ ⟨Nat.zero_le _, Nat.zero_le _⟩ (Nat.le_of_ble_eq_true rfl) dX10_setting_26 ?_
      exact f_weak (LSb.s (LSb.s LSb.e)) (s_X10_setting_29 cx hr hlk _ o0 x1 hk_o0)
  · refine f_aload_n (pc := 7) cx dX10_setting_7 rfl rfl ?_
    refine f_iconst (pc := 8) cx dX10_setting_8 kc_iconst_1 ?_
    refine f_bind (fun r11 hr11 => ?_)
    refine k_X10_101 (pc := 9) cx (c_X10_wrong l G _ o0 1 hk_o0 r11 hr11) hk_o0 ⟨by decide, by decide⟩ ⟨Nat.zero_le _, Nat.zero_le _⟩ (Nat.le_of_ble_eq_true rfl) dX10_setting_9 ?_
    refine f_goto (pc := 12) (tgt := 29) cx dX10_setting_12 (by decide) ?_
    exact f_weak (LSb.s (LSb.s LSb.e)) (s_X10_setting_29 cx hr hlk _ o0 x1 hk_o0)
set_option maxRecDepth 4000 in
theorem c_X10_setting (l : Launch) (G : GT) (h : Hp) (o0 : Nat) (x1 : Int32) (hk_o0 : kd o0 = 9) : CtV l G yX10_setting cX10_setting 2 none 8 172 [.ref (gad G o0), .int x1] h (p_X10_setting h o0 x1) := fun a ha => Ct.of (lv := [some (.ref (gad G o0)), some (.int x1)]) (by decide) rfl (Nat.le_of_ble_eq_true rfl) rfl (fun p e s m args below meth c cx hr hlk => s_X10_setting cx hr hlk h o0 x1 hk_o0 a ha)
def q_X10_deed_21 (h : Hp) (o0 : Nat) (x1 : Int32) : Option Hp :=
  Option.bind (p_X10_notes h o0 x1) fun r1 => Option.bind (p_X10_goOn r1 o0) fun r2 => if x1 = 9 then (nv (hp r2 o0 9 ((r2 o0 9) + 1)) fun h3 => Option.bind (p_X10_numeral h3 o0 0 9999) fun r4 => Option.bind (p_X10_notes r4.2 o0 r4.1) fun r5 => Option.bind (p_X10_numeral r5 o0 1 1500) fun r6 => Option.bind (p_X10_notes r6.2 o0 r6.1) fun r7 => Option.bind (p_X10_numeral r7 o0 0 1) fun r8 => Option.bind (p_X10_notes r8.2 o0 r8.1) fun r9 => some r9) else (if x1 = 10 then (Option.bind (p_X10_numeral r2 o0 1 999) fun r10 => Option.bind (p_X10_notes r10.2 o0 r10.1) fun r11 => some r11) else (if x1 = 11 then (Option.bind (p_X10_numeral r2 o0 1 60) fun r12 => Option.bind (p_X10_notes r12.2 o0 r12.1) fun r13 => some r13) else (Option.bind (p_X10_numeral r2 o0 1 200) fun r14 => Option.bind (p_X10_notes r14.2 o0 r14.1) fun r15 => some r15)))
def p_X10_deed (h : Hp) (o0 : Nat) (x1 : Int32) : Option Hp :=
  if x1 = 9 then (if (h o0 9) = 200 then (Option.bind (p_X10_wrong h o0 2) fun r16 => q_X10_deed_21 r16 o0 x1) else (q_X10_deed_21 h o0 x1)) else (q_X10_deed_21 h o0 x1)
set_option maxRecDepth 4000 in
theorem s_X10_deed_21 {p : Program} {l : Launch} {e : Env} {s : State} {m : MethodId} {args : Array Value} {below : List Frame} {meth : Method} {c : Code} {G : GT} (cx : CX p s m args c cX10_deed 2 RX10 G) (hr : meth.sig.returnType = none) (hlk : meth.locks = false) (h : Hp) (o0 : Nat) (x1 : Int32) (hk_o0 : kd o0 = 9) : PF p l e (rmc 8 172) s m args below meth c 2 G 0 0 (QV below G args s) 21 [some (.ref (gad G o0)), some (.int x1)] [] h (q_X10_deed_21 h o0 x1) := by
  unfold q_X10_deed_21
  refine f_aload_n (pc := 21) cx dX10_deed_21 rfl rfl ?_
  refine f_iload_n (pc := 22) cx dX10_deed_22 rfl rfl ?_
  refine f_bind (fun r1 hr1 => ?_)
  refine k_X10_125 (pc := 23) cx (c_X10_notes l G _ o0 x1 hk_o0 r1 hr1) hk_o0 ⟨by decide, by decide⟩ ⟨Nat.zero_le _, Nat.zero_le _⟩ (Nat.le_of_ble_eq_true rfl) dX10_deed_23 ?_
  refine f_aload_n (pc := 26) cx dX10_deed_26 rfl rfl ?_
  refine f_bind (fun r2 hr2 => ?_)
  refine k_X10_105 (pc := 27) cx (c_X10_goOn l G _ o0 hk_o0 r2 hr2) hk_o0 ⟨by decide, by decide⟩ ⟨Nat.zero_le _, Nat.zero_le _⟩ (Nat.le_of_ble_eq_true rfl) dX10_deed_27 ?_
  refine f_iload_n (pc := 30) cx dX10_deed_30 rfl rfl ?_
  refine f_bipush (pc := 31) cx dX10_deed_31 kc_bipush_9 ?_
  refine f_icmp_ne (pc := 33) (tgt := 83) cx dX10_deed_33 (by decide) (fun _ => ?_) (fun _ => ?_)
  · refine f_aload_n (pc := 36) cx dX10_deed_36 rfl rfl ?_
    refine f_dup (pc := 37) cx dX10_deed_37 rfl ?_
    refine g_X10_122 (pc := 38) cx hk_o0 dX10_deed_38 ?_
    refine f_iconst (pc := 41) cx dX10_deed_41 kc_iconst_1 ?_
    refine f_iadd (pc := 42) cx dX10_deed_42 ?_
    refine u_X10_122 (pc := 43) cx hk_o0 dX10_deed_43 ?_
    refine f_nvh (fun h3 => ?_)
    refine f_aload_n (pc := 46) cx dX10_deed_46 rfl rfl ?_
    refine f_aload_n (pc := 47) cx dX10_deed_47 rfl rfl ?_
    refine f_iconst (pc := 48) cx dX10_deed_48 kc_iconst_0 ?_
    refine f_sipush (pc := 49) cx dX10_deed_49 kc_sipush_9999 ?_
    refine f_bind (fun r4 hr4 => ?_)
    refine k_X10_118 (pc := 52) cx (c_X10_numeral l G _ o0 0 9999 hk_o0 r4 hr4) hk_o0 ⟨by decide, by decide⟩ ⟨Nat.zero_le _, Nat.zero_le _⟩ (Nat.le_of_ble_eq_true rfl) dX10_deed_52 ?_
    refine f_bind (fun r5 hr5 => ?_)
    refine k_X10_125 (pc := 55) cx (c_X10_notes l G _ o0 r4.1 hk_o0 r5 hr5) hk_o0 ⟨by decide, by decide⟩ ⟨Nat.zero_le _, Nat.zero_le _⟩ (Nat.le_of_ble_eq_true rfl) dX10_deed_55 ?_
    refine f_aload_n (pc := 58) cx dX10_deed_58 rfl rfl ?_
    refine f_aload_n (pc := 59) cx dX10_deed_59 rfl rfl ?_
    refine f_iconst (pc := 60) cx dX10_deed_60 kc_iconst_1 ?_
    refine f_sipush (pc := 61) cx dX10_deed_61 kc_sipush_1500 ?_
    refine f_bind (fun r6 hr6 => ?_)
    refine k_X10_118 (pc := 64) cx (c_X10_numeral l G _ o0 1 1500 hk_o0 r6 hr6) hk_o0 ⟨by decide, by decide⟩ ⟨Nat.zero_le _, Nat.zero_le _⟩ (Nat.le_of_ble_eq_true rfl) dX10_deed_64 ?_
    refine f_bind (fun r7 hr7 => ?_)
    refine k_X10_125 (pc := 67) cx (c_X10_notes l G _ o0 r6.1 hk_o0 r7 hr7) hk_o0 ⟨by decide, by decide⟩ ⟨Nat.zero_le _, Nat.zero_le _⟩ (Nat.le_of_ble_eq_true rfl) dX10_deed_67 ?_
    refine f_aload_n (pc := 70) cx dX10_deed_70 rfl rfl ?_
    refine f_aload_n (pc := 71) cx dX10_deed_71 rfl rfl ?_
    refine f_iconst (pc := 72) cx dX10_deed_72 kc_iconst_0 ?_
    refine f_iconst (pc := 73) cx dX10_deed_73 kc_iconst_1 ?_
    refine f_bind (fun r8 hr8 => ?_)
    refine k_X10_118 (pc := 74) cx (c_X10_numeral l G _ o0 0 1 hk_o0 r8 hr8) hk_o0 ⟨by decide, by decide⟩ ⟨Nat.zero_le _, Nat.zero_le _⟩ (Nat.le_of_ble_eq_true rfl) dX10_deed_74 ?_
    refine f_bind (fun r9 hr9 => ?_)
    refine k_X10_125 (pc := 77) cx (c_X10_notes l G _ o0 r8.1 hk_o0 r9 hr9) hk_o0 ⟨by decide, by decide⟩ ⟨Nat.zero_le _, Nat.zero_le _⟩ (Nat.le_of_ble_eq_true rfl) dX10_deed_77 ?_
    refine f_goto (pc := 80) (tgt := 118) cx dX10_deed_80 (by decide) ?_
    exact f_vret cx hr hlk dX10_deed_118
  · refine f_aload_n (pc := 83) cx dX10_deed_83 rfl rfl ?_
    refine f_aload_n (pc := 84) cx dX10_deed_84 rfl rfl ?_
    refine f_iconst (pc := 85) cx dX10_deed_85 kc_iconst_1 ?_
    refine f_iload_n (pc := 86) cx dX10_deed_86 rfl rfl ?_
    refine f_bipush (pc := 87) cx dX10_deed_87 kc_bipush_10 ?_
    refine f_icmp_ne (pc := 89) (tgt := 98) cx dX10_deed_89 (by decide) (fun _ => ?_) (fun _ => ?_)
    · refine f_sipush (pc := 92) cx dX10_deed_92 kc_sipush_999 ?_
      refine f_goto (pc := 95) (tgt := 112) cx dX10_deed_95 (by decide) ?_
      refine f_bind (fun r10 hr10 => ?_)
      refine k_X10_118 (pc := 112) cx (c_X10_numeral l G _ o0 1 999 hk_o0 r10 hr10) hk_o0 ⟨by decide, by decide⟩ ⟨Nat.zero_le _, Nat.zero_le _⟩ (Nat.le_of_ble_eq_true rfl) dX10_deed_112 ?_
      refine f_bind (fun r11 hr11 => ?_)
      refine k_X10_125 (pc := 115) cx (c_X10_notes l G _ o0 r10.1 hk_o0 r11 hr11) hk_o0 ⟨by decide, by decide⟩ ⟨Nat.zero_le _, Nat.zero_le _⟩ (Nat.le_of_ble_eq_true rfl) dX10_deed_115 ?_
      exact f_vret cx hr hlk dX10_deed_118
    · refine f_iload_n (pc := 98) cx dX10_deed_98 rfl rfl ?_
      refine f_bipush (pc := 99) cx dX10_deed_99 kc_bipush_11 ?_
      refine f_icmp_ne (pc := 101) (tgt := 109) cx dX10_deed_101 (by decide) (fun _ => ?_) (fun _ => ?_)
      · refine f_bipush (pc := 104) cx dX10_deed_104 kc_bipush_60 ?_
        refine f_goto (pc := 106) (tgt := 112) cx dX10_deed_106 (by decide) ?_
        refine f_bind (fun r12 hr12 => ?_)
        refine k_X10_118 (pc := 112) cx (c_X10_numeral l G _ o0 1 60 hk_o0 r12 hr12) hk_o0 ⟨by decide, by decide⟩ ⟨Nat.zero_le _, Nat.zero_le _⟩ (Nat.le_of_ble_eq_true rfl) dX10_deed_112 ?_
        refine f_bind (fun r13 hr13 => ?_)
        refine k_X10_125 (pc := 115) cx (c_X10_notes l G _ o0 r12.1 hk_o0 r13 hr13) hk_o0 ⟨by decide, by decide⟩ ⟨Nat.zero_le _, Nat.zero_le _⟩ (Nat.le_of_ble_eq_true rfl) dX10_deed_115 ?_
        exact f_vret cx hr hlk dX10_deed_118
      · refine f_sipush (pc := 109) cx dX10_deed_109 kc_sipush_200 ?_
        refine f_bind (fun r14 hr14 => ?_)
        refine k_X10_118 (pc := 112) cx (c_X10_numeral l G _ o0 1 200 hk_o0 r14 hr14) hk_o0 ⟨by decide, by decide⟩ ⟨Nat.zero_le _, Nat.zero_le _⟩ (Nat.le_of_ble_eq_true rfl) dX10_deed_112 ?_
        refine f_bind (fun r15 hr15 => ?_)
        refine k_X10_125 (pc := 115) cx (c_X10_notes l G _ o0 r14.1 hk_o0 r15 hr15) hk_o0 ⟨by decide, by decide⟩ ⟨Nat.zero_le _, Nat.zero_le _⟩ (Nat.le_of_ble_eq_true rfl) dX10_deed_115 ?_
        exact f_vret cx hr hlk dX10_deed_118
set_option maxRecDepth 4000 in
theorem s_X10_deed {p : Program} {l : Launch} {e : Env} {s : State} {m : MethodId} {args : Array Value} {below : List Frame} {meth : Method} {c : Code} {G : GT} (cx : CX p s m args c cX10_deed 2 RX10 G) (hr : meth.sig.returnType = none) (hlk : meth.locks = false) (h : Hp) (o0 : Nat) (x1 : Int32) (hk_o0 : kd o0 = 9) : PF p l e (rmc 8 172) s m args below meth c 2 G 0 0 (QV below G args s) 0 [some (.ref (gad G o0)), some (.int x1)] [] h (p_X10_deed h o0 x1) := by
  unfold p_X10_deed
  refine f_iload_n (pc := 0) cx dX10_deed_0 rfl rfl ?_
  refine f_bipush (pc := 1) cx dX10_deed_1 kc_bipush_9 ?_
  refine f_icmp_ne (pc := 3) (tgt := 21) cx dX10_deed_3 (by decide) (fun _ => ?_) (fun _ => ?_)
  · refine f_aload_n (pc := 6) cx dX10_deed_6 rfl rfl ?_
    refine g_X10_122 (pc := 7) cx hk_o0 dX10_deed_7 ?_
    refine f_sipush (pc := 10) cx dX10_deed_10 kc_sipush_200 ?_
    refine f_icmp_ne (pc := 13) (tgt := 21) cx dX10_deed_13 (by decide) (fun _ => ?_) (fun _ => ?_)
    · refine f_aload_n (pc := 16) cx dX10_deed_16 rfl rfl ?_
      refine f_iconst (pc := 17) cx dX10_deed_17 kc_iconst_2 ?_
      refine f_bind (fun r16 hr16 => ?_)
      refine k_X10_101 (pc := 18) cx (c_X10_wrong l G _ o0 2 hk_o0 r16 hr16) hk_o0 ⟨by decide, by decide⟩ ⟨Nat.zero_le _, Nat.zero_le _⟩ (Nat.le_of_ble_eq_true rfl) dX10_deed_18 ?_
      exact f_weak (LSb.s (LSb.s LSb.e)) (s_X10_deed_21 cx hr hlk _ o0 x1 hk_o0)
    · exact f_weak (LSb.s (LSb.s LSb.e)) (s_X10_deed_21 cx hr hlk _ o0 x1 hk_o0)
  · exact f_weak (LSb.s (LSb.s LSb.e)) (s_X10_deed_21 cx hr hlk _ o0 x1 hk_o0)
set_option maxRecDepth 4000 in
theorem c_X10_deed (l : Launch) (G : GT) (h : Hp) (o0 : Nat) (x1 : Int32) (hk_o0 : kd o0 = 9) : CtV l G yX10_deed cX10_deed 2 none 8 172 [.ref (gad G o0), .int x1] h (p_X10_deed h o0 x1) := fun a ha => Ct.of (lv := [some (.ref (gad G o0)), some (.int x1)]) (by decide) rfl (Nat.le_of_ble_eq_true rfl) rfl (fun p e s m args below meth c cx hr hlk => s_X10_deed cx hr hlk h o0 x1 hk_o0 a ha)
def q_X10_sender_94 (h : Hp) (o0 : Nat) : Option Hp :=
  nv (5 * (h o0 6)) fun v1 => Option.bind (p_X10_numeral h o0 0 9999) fun r2 => Option.bind (p_X10_numeral r2.2 o0 1 1500) fun r3 => Option.bind (p_X10_numeral r3.2 o0 1 20) fun r4 => Option.bind (p_X10_numeral r4.2 o0 1 99) fun r5 => Option.bind (p_X10_numeral r5.2 o0 0 1) fun r6 => if (r6.2 o0 16) = 0 then (if ib v1 20 then (nv (hp r6.2 (o0 + 4) (Int32.toNatClampNeg v1) r2.1) fun h8 => if ib (v1 + 1) 20 then (nv (hp h8 (o0 + 4) (Int32.toNatClampNeg (v1 + 1)) r3.1) fun h10 => if ib (v1 + 2) 20 then (nv (hp h10 (o0 + 4) (Int32.toNatClampNeg (v1 + 2)) (100 * r4.1)) fun h12 => if ib (v1 + 3) 20 then (nv (hp h12 (o0 + 4) (Int32.toNatClampNeg (v1 + 3)) r5.1) fun h14 => if ib (v1 + 4) 20 then (nv (hp h14 (o0 + 4) (Int32.toNatClampNeg (v1 + 4)) r6.1) fun h16 => nv (hp h16 o0 6 ((h16 o0 6) + 1)) fun h17 => some h17) else none) else none) else none) else none) else none) else (some r6.2)
def b_X10_sender_60 (o0 : Nat) (k60 : Hp × Int32 → Option Hp) (q : Hp × Int32) : Option Hp :=
  if (q.1 o0 6) ≤ q.2 then (q_X10_sender_94 q.1 o0) else (if ib (5 * q.2) 20 then (if (q.1 (o0 + 4) (Int32.toNatClampNeg (5 * q.2))) = (q.1 o0 15) then (Option.bind (p_X10_wrong q.1 o0 3) fun r19 => k60 (r19, q.2 + 1)) else (k60 (q.1, q.2 + 1))) else none)
def q_X10_sender_28 (h : Hp) (o0 : Nat) : Option Hp :=
  Option.bind (p_X10_goOn h o0) fun r20 => if (r20 o0 16) = 0 then (if (r20 o0 14) = 1 then (if 9999 < (r20 o0 15) then (q_X10_sender_94 r20 o0) else (lp (b_X10_sender_60 o0) FU (r20, 0))) else (q_X10_sender_94 r20 o0)) else (some r20)
def p_X10_sender (h : Hp) (o0 : Nat) : Option Hp :=
  if (h o0 8) ≤ 0 then (if (h o0 6) = 4 then (Option.bind (p_X10_wrong h o0 2) fun r21 => q_X10_sender_28 r21 o0) else (q_X10_sender_28 h o0)) else (Option.bind (p_X10_wrong h o0 1) fun r22 => q_X10_sender_28 r22 o0)
set_option maxRecDepth 4000 in
theorem s_X10_sender_94 {p : Program} {l : Launch} {e : Env} {s : State} {m : MethodId} {args : Array Value} {below : List Frame} {meth : Method} {c : Code} {G : GT} (cx : CX p s m args c cX10_sender 7 RX10 G) (hr : meth.sig.returnType = none) (hlk : meth.locks = false) (h : Hp) (o0 : Nat) (hk_o0 : kd o0 = 9) : PF p l e (rmc 8 172) s m args below meth c 7 G 0 0 (QV below G args s) 94 [some (.ref (gad G o0)), none, none, none, none, none, none] [] h (q_X10_sender_94 h o0) := by
  unfold q_X10_sender_94
  refine f_iconst (pc := 94) cx dX10_sender_94 kc_iconst_5 ?_
  refine f_aload_n (pc := 95) cx dX10_sender_95 rfl rfl ?_
  refine g_X10_128 (pc := 96) cx hk_o0 dX10_sender_96 ?_
  refine f_imul (pc := 99) cx dX10_sender_99 ?_
  refine f_nvi (fun v1 => ?_)
  refine f_istore1 (pc := 100) cx dX10_sender_100 (by decide) rfl ?_
  refine f_aload_n (pc := 101) cx dX10_sender_101 rfl rfl ?_
  refine f_iconst (pc := 102) cx dX10_sender_102 kc_iconst_0 ?_
  refine f_sipush (pc := 103) cx dX10_sender_103 kc_sipush_9999 ?_
  refine f_bind (fun r2 hr2 => ?_)
  refine k_X10_118 (pc := 106) cx (c_X10_numeral l G _ o0 0 9999 hk_o0 r2 hr2) hk_o0 ⟨by decide, by decide⟩ ⟨Nat.zero_le _, Nat.zero_le _⟩ (Nat.le_of_ble_eq_true rfl) dX10_sender_106 ?_
  refine f_istore2 (pc := 109) cx dX10_sender_109 (by decide) rfl ?_
  refine f_aload_n (pc := 110) cx dX10_sender_110 rfl rfl ?_
  refine f_iconst (pc := 111) cx dX10_sender_111 kc_iconst_1 ?_
  refine f_sipush (pc := 112) cx dX10_sender_112 kc_sipush_1500 ?_
  refine f_bind (fun r3 hr3 => ?_)
  refine k_X10_118 (pc := 115) cx (c_X10_numeral l G _ o0 1 1500 hk_o0 r3 hr3) hk_o0 ⟨by decide, by decide⟩ ⟨Nat.zero_le _, Nat.zero_le _⟩ (Nat.le_of_ble_eq_true rfl) dX10_sender_115 ?_
  refine f_istore3 (pc := 118) cx dX10_sender_118 (by decide) rfl ?_
  refine f_aload_n (pc := 119) cx dX10_sender_119 rfl rfl ?_
  refine f_iconst (pc := 120) cx dX10_sender_120 kc_iconst_1 ?_
  refine f_bipush (pc := 121) cx dX10_sender_121 kc_bipush_20 ?_
  refine f_bind (fun r4 hr4 => ?_)
  refine k_X10_118 (pc := 123) cx (c_X10_numeral l G _ o0 1 20 hk_o0 r4 hr4) hk_o0 ⟨by decide, by decide⟩ ⟨Nat.zero_le _, Nat.zero_le _⟩ (Nat.le_of_ble_eq_true rfl) dX10_sender_123 ?_
  refine f_istore4 (pc := 126) cx dX10_sender_126 (by decide) rfl ?_
  refine f_aload_n (pc := 128) cx dX10_sender_128 rfl rfl ?_
  refine f_iconst (pc := 129) cx dX10_sender_129 kc_iconst_1 ?_
  refine f_bipush (pc := 130) cx dX10_sender_130 kc_bipush_99 ?_
  refine f_bind (fun r5 hr5 => ?_)
  refine k_X10_118 (pc := 132) cx (c_X10_numeral l G _ o0 1 99 hk_o0 r5 hr5) hk_o0 ⟨by decide, by decide⟩ ⟨Nat.zero_le _, Nat.zero_le _⟩ (Nat.le_of_ble_eq_true rfl) dX10_sender_132 ?_
  refine f_istore5 (pc := 135) cx dX10_sender_135 (by decide) rfl ?_
  refine f_aload_n (pc := 137) cx dX10_sender_137 rfl rfl ?_
  refine f_iconst (pc := 138) cx dX10_sender_138 kc_iconst_0 ?_
  refine f_iconst (pc := 139) cx dX10_sender_139 kc_iconst_1 ?_
  refine f_bind (fun r6 hr6 => ?_)
  refine k_X10_118 (pc := 140) cx (c_X10_numeral l G _ o0 0 1 hk_o0 r6 hr6) hk_o0 ⟨by decide, by decide⟩ ⟨Nat.zero_le _, Nat.zero_le _⟩ (Nat.le_of_ble_eq_true rfl) dX10_sender_140 ?_
  refine f_istore6 (pc := 143) cx dX10_sender_143 (by decide) rfl ?_
  refine f_aload_n (pc := 145) cx dX10_sender_145 rfl rfl ?_
  refine g_X10_92 (pc := 146) cx hk_o0 dX10_sender_146 ?_
  refine f_if_eq (pc := 149) (tgt := 153) cx dX10_sender_149 (by decide) (fun _ => ?_) (fun _ => ?_)
  · refine f_aload_n (pc := 153) cx dX10_sender_153 rfl rfl ?_
    refine g_X10_20 (pc := 154) cx hk_o0 dX10_sender_154 ?_
    refine f_iload_n (pc := 157) cx dX10_sender_157 rfl rfl ?_
    refine f_iload_n (pc := 158) cx dX10_sender_158 rfl rfl ?_
    refine f_need (fun c7 => ?_)
    refine f_iast (pc := 159) (n := 20) cx (kf_9_5 hk_o0) (by decide) c7 dX10_sender_159 ?_
    refine f_nvh (fun h8 => ?_)
    refine f_aload_n (pc := 160) cx dX10_sender_160 rfl rfl ?_
    refine g_X10_20 (pc := 161) cx hk_o0 dX10_sender_161 ?_
    refine f_iload_n (pc := 164) cx dX10_sender_164 rfl rfl ?_
    refine f_iconst (pc := 165) cx dX10_sender_165 kc_iconst_1 ?_
    refine f_iadd (pc := 166) cx dX10_sender_166 ?_
    refine f_iload_n (pc := 167) cx dX10_sender_167 rfl rfl ?_
    refine f_need (fun c9 => ?_)
    refine f_iast (pc := 168) (n := 20) cx (kf_9_5 hk_o0) (by decide) c9 dX10_sender_168 ?_
    refine f_nvh (fun h10 => ?_)
    refine f_aload_n (pc := 169) cx dX10_sender_169 rfl rfl ?_
    refine g_X10_20 (pc := 170) cx hk_o0 dX10_sender_170 ?_
    refine f_iload_n (pc := 173) cx dX10_sender_173 rfl rfl ?_
    refine f_iconst (pc := 174) cx dX10_sender_174 kc_iconst_2 ?_
    refine f_iadd (pc := 175) cx dX10_sender_175 ?_
    refine f_bipush (pc := 176) cx dX10_sender_176 kc_bipush_100 ?_
    refine f_iload (pc := 178) cx dX10_sender_178 rfl ?_
    refine f_imul (pc := 180) cx dX10_sender_180 ?_
    refine f_need (fun c11 => ?_)
    refine f_iast (pc := 181) (n := 20) cx (kf_9_5 hk_o0) (by decide) c11 dX10_sender_181 ?_
    refine f_nvh (fun h12 => ?_)
    refine f_aload_n (pc := 182) cx dX10_sender_182 rfl rfl ?_
    refine g_X10_20 (pc := 183) cx hk_o0 dX10_sender_183 ?_
    refine f_iload_n (pc := 186) cx dX10_sender_186 rfl rfl ?_
    refine f_iconst (pc := 187) cx dX10_sender_187 kc_iconst_3 ?_
    refine f_iadd (pc := 188) cx dX10_sender_188 ?_
    refine f_iload (pc := 189) cx dX10_sender_189 rfl ?_
    refine f_need (fun c13 => ?_)
    refine f_iast (pc := 191) (n := 20) cx (kf_9_5 hk_o0) (by decide) c13 dX10_sender_191 ?_
    refine f_nvh (fun h14 => ?_)
    refine f_aload_n (pc := 192) cx dX10_sender_192 rfl rfl ?_
    refine g_X10_20 (pc := 193) cx hk_o0 dX10_sender_193 ?_
    refine f_iload_n (pc := 196) cx dX10_sender_196 rfl rfl ?_
    refine f_iconst (pc := 197) cx dX10_sender_197 kc_iconst_4 ?_
    refine f_iadd (pc := 198) cx dX10_sender_198 ?_
    refine f_iload (pc := 199) cx dX10_sender_199 rfl ?_
    refine f_need (fun c15 => ?_)
    refine f_iast (pc := 201) (n := 20) cx (kf_9_5 hk_o0) (by decide) c15 dX10_sender_201 ?_
    refine f_nvh (fun h16 => ?_)
    refine f_aload_n (pc := 202) cx dX10_sender_202 rfl rfl ?_
    refine f_dup (pc := 203) cx dX10_sender_203 rfl ?_
    refine g_X10_128 (pc := 204) cx hk_o0 dX10_sender_204 ?_
    refine f_iconst (pc := 207) cx dX10_sender_207 kc_iconst_1 ?_
    refine f_iadd (pc := 208) cx dX10_sender_208 ?_
    refine u_X10_128 (pc := 209) cx hk_o0 dX10_sender_209 ?_
    refine f_nvh (fun h17 => ?_)
    exact f_vret cx hr hlk dX10_sender_212
  · exact f_vret cx hr hlk dX10_sender_152
set_option maxRecDepth 4000 in
theorem s_X10_sender_60 {p : Program} {l : Launch} {e : Env} {s : State} {m : MethodId} {args : Array Value} {below : List Frame} {meth : Method} {c : Code} {G : GT} (cx : CX p s m args c cX10_sender 7 RX10 G) (hr : meth.sig.returnType = none) (hlk : meth.locks = false) (o0 : Nat) (hk_o0 : kd o0 = 9) : ∀ (n : Nat) (q : Hp × Int32), PF p l e (rmc 8 172) s m args below meth c 7 G 0 0 (QV below G args s) 60 [some (.ref (gad G o0)), some (.int q.2), none, none, none, none, none] [] q.1 (lp (b_X10_sender_60 o0) n q) := by
  refine f_lp (lvf := fun (q : Hp × Int32) => [some (.ref (gad G o0)), some (.int q.2), none, none, none, none, none]) (hf := fun (q : Hp × Int32) => q.1) (fun k60 hk60 q => ?_)
  show PF p l e (rmc 8 172) s m args below meth c 7 G 0 0 (QV below G args s) 60 [some (.ref (gad G o0)), some (.int q.2), none, none, none, none, none] [] q.1 (b_X10_sender_60 o0 k60 q)
  unfold b_X10_sender_60
  refine f_iload_n (pc := 60) cx dX10_sender_60 rfl rfl ?_
  refine f_aload_n (pc := 61) cx dX10_sender_61 rfl rfl ?_
  refine g_X10_128 (pc := 62) cx hk_o0 dX10_sender_62 ?_
  refine f_icmp_ge (pc := 65) (tgt := 94) cx dX10_sender_65 (by decide) (fun _ => ?_) (fun _ => ?_)
  · exact f_weak (LSb.s (LSb.n (LSb.n (LSb.n (LSb.n (LSb.n (LSb.n LSb.e))))))) (s_X10_sender_94 cx hr hlk _ o0 hk_o0)
  · refine f_aload_n (pc := 68) cx dX10_sender_68 rfl rfl ?_
    refine g_X10_20 (pc := 69) cx hk_o0 dX10_sender_69 ?_
    refine f_iconst (pc := 72) cx dX10_sender_72 kc_iconst_5 ?_
    refine f_iload_n (pc := 73) cx dX10_sender_73 rfl rfl ?_
    refine f_imul (pc := 74) cx dX10_sender_74 ?_
    refine f_need (fun c18 => ?_)
    refine f_iald (pc := 75) (n := 20) cx (kf_9_5 hk_o0) (by decide) c18 dX10_sender_75 ?_
    refine f_aload_n (pc := 76) cx dX10_sender_76 rfl rfl ?_
    refine g_X10_74 (pc := 77) cx hk_o0 dX10_sender_77 ?_
    refine f_icmp_ne (pc := 80) (tgt := 88) cx dX10_sender_80 (by decide) (fun _ => ?_) (fun _ => ?_)
    · refine f_aload_n (pc := 83) cx dX10_sender_83 rfl rfl ?_
      refine f_iconst (pc := 84) cx dX10_sender_84 kc_iconst_3 ?_
      refine f_bind (fun r19 hr19 => ?_)
      refine k_X10_101 (pc := 85) cx (c_X10_wrong l G _ o0 3 hk_o0 r19 hr19) hk_o0 ⟨by decide, by decide⟩ ⟨Nat.zero_le _, Nat.zero_le _⟩ (Nat.le_of_ble_eq_true rfl) dX10_sender_85 ?_
      refine f_iinc1 (pc := 88) cx dX10_sender_88 kc_iconst_1 (by decide) rfl ?_
      refine f_goto (pc := 91) (tgt := 60) cx dX10_sender_91 (by decide) ?_
      exact f_weak (LSb.s (LSb.s (LSb.n (LSb.n (LSb.n (LSb.n (LSb.n LSb.e))))))) (hk60 (r19, q.2 + 1))
    · refine f_iinc1 (pc := 88) cx dX10_sender_88 kc_iconst_1 (by decide) rfl ?_
      refine f_goto (pc := 91) (tgt := 60) cx dX10_sender_91 (by decide) ?_
      exact f_weak (LSb.s (LSb.s (LSb.n (LSb.n (LSb.n (LSb.n (LSb.n LSb.e))))))) (hk60 (q.1, q.2 + 1))
set_option maxRecDepth 4000 in
theorem s_X10_sender_28 {p : Program} {l : Launch} {e : Env} {s : State} {m : MethodId} {args : Array Value} {below : List Frame} {meth : Method} {c : Code} {G : GT} (cx : CX p s m args c cX10_sender 7 RX10 G) (hr : meth.sig.returnType = none) (hlk : meth.locks = false) (h : Hp) (o0 : Nat) (hk_o0 : kd o0 = 9) : PF p l e (rmc 8 172) s m args below meth c 7 G 0 0 (QV below G args s) 28 [some (.ref (gad G o0)), none, none, none, none, none, none] [] h (q_X10_sender_28 h o0) := by
  unfold q_X10_sender_28
  refine f_aload_n (pc := 28) cx dX10_sender_28 rfl rfl ?_
  refine f_bind (fun r20 hr20 => ?_)
  refine k_X10_105 (pc := 29) cx (c_X10_goOn l G _ o0 hk_o0 r20 hr20) hk_o0 ⟨by decide, by decide⟩ ⟨Nat.zero_le _, Nat.zero_le _⟩ (Nat.le_of_ble_eq_true rfl) dX10_sender_29 ?_
  refine f_aload_n (pc := 32) cx dX10_sender_32 rfl rfl ?_
  refine g_X10_92 (pc := 33) cx hk_o0 dX10_sender_33 ?_
  refine f_if_eq (pc := 36) (tgt := 40) cx dX10_sender_36 (by decide) (fun _ => ?_) (fun _ => ?_)
  · refine f_aload_n (pc := 40) cx dX10_sender_40 rfl rfl ?_
    refine g_X10_64 (pc := 41) cx hk_o0 dX10_sender_41 ?_
    refine f_iconst (pc := 44) cx dX10_sender_44 kc_iconst_1 ?_
    refine f_icmp_ne (pc := 45) (tgt := 94) cx dX10_sender_45 (by decide) (fun _ => ?_) (fun _ => ?_)
    · refine f_aload_n (pc := 48) cx dX10_sender_48 rfl rfl ?_
      refine g_X10_74 (pc := 49) cx hk_o0 dX10_sender_49 ?_
      refine f_sipush (pc := 52) cx dX10_sender_52 kc_sipush_9999 ?_
      refine f_icmp_gt (pc := 55) (tgt := 94) cx dX10_sender_55 (by decide) (fun _ => ?_) (fun _ => ?_)
      · exact f_weak (LSb.s (LSb.n (LSb.n (LSb.n (LSb.n (LSb.n (LSb.n LSb.e))))))) (s_X10_sender_94 cx hr hlk _ o0 hk_o0)
      · refine f_iconst (pc := 58) cx dX10_sender_58 kc_iconst_0 ?_
        refine f_istore1 (pc := 59) cx dX10_sender_59 (by decide) rfl ?_
        exact f_weak (LSb.s (LSb.s (LSb.n (LSb.n (LSb.n (LSb.n (LSb.n LSb.e))))))) (s_X10_sender_60 cx hr hlk o0 hk_o0 FU (r20, 0))
    · exact f_weak (LSb.s (LSb.n (LSb.n (LSb.n (LSb.n (LSb.n (LSb.n LSb.e))))))) (s_X10_sender_94 cx hr hlk _ o0 hk_o0)
  · exact f_vret cx hr hlk dX10_sender_39
set_option maxRecDepth 4000 in
theorem s_X10_sender {p : Program} {l : Launch} {e : Env} {s : State} {m : MethodId} {args : Array Value} {below : List Frame} {meth : Method} {c : Code} {G : GT} (cx : CX p s m args c cX10_sender 7 RX10 G) (hr : meth.sig.returnType = none) (hlk : meth.locks = false) (h : Hp) (o0 : Nat) (hk_o0 : kd o0 = 9) : PF p l e (rmc 8 172) s m args below meth c 7 G 0 0 (QV below G args s) 0 [some (.ref (gad G o0)), none, none, none, none, none, none] [] h (p_X10_sender h o0) := by
  unfold p_X10_sender
  refine f_aload_n (pc := 0) cx dX10_sender_0 rfl rfl ?_
  refine g_X10_108 (pc := 1) cx hk_o0 dX10_sender_1 ?_
  refine f_if_le (pc := 4) (tgt := 15) cx dX10_sender_4 (by decide) (fun _ => ?_) (fun _ => ?_)
  · refine f_aload_n (pc := 15) cx dX10_sender_15 rfl rfl ?_
    refine g_X10_128 (pc := 16) cx hk_o0 dX10_sender_16 ?_
    refine f_iconst (pc := 19) cx dX10_sender_19 kc_iconst_4 ?_
    refine f_icmp_ne (pc := 20) (tgt := 28) cx dX10_sender_20 (by decide) (fun _ => ?_) (fun _ => ?_)
    · refine f_aload_n (pc := 23) cx dX10_sender_23 rfl rfl ?_
      refine f_iconst (pc := 24) cx dX10_sender_24 kc_iconst_2 ?_
      refine f_bind (fun r21 hr21 => ?_)
      refine k_X10_101 (pc := 25) cx (c_X10_wrong l G _ o0 2 hk_o0 r21 hr21) hk_o0 ⟨by decide, by decide⟩ ⟨Nat.zero_le _, Nat.zero_le _⟩ (Nat.le_of_ble_eq_true rfl) dX10_sender_25 ?_
      exact f_weak (LSb.s (LSb.n (LSb.n (LSb.n (LSb.n (LSb.n (LSb.n LSb.e))))))) (s_X10_sender_28 cx hr hlk _ o0 hk_o0)
    · exact f_weak (LSb.s (LSb.n (LSb.n (LSb.n (LSb.n (LSb.n (LSb.n LSb.e))))))) (s_X10_sender_28 cx hr hlk _ o0 hk_o0)
  · refine f_aload_n (pc := 7) cx dX10_sender_7 rfl rfl ?_
    refine f_iconst (pc := 8) cx dX10_sender_8 kc_iconst_1 ?_
    refine f_bind (fun r22 hr22 => ?_)
    refine k_X10_101 (pc := 9) cx (c_X10_wrong l G _ o0 1 hk_o0 r22 hr22) hk_o0 ⟨by decide, by decide⟩ ⟨Nat.zero_le _, Nat.zero_le _⟩ (Nat.le_of_ble_eq_true rfl) dX10_sender_9 ?_
    refine f_goto (pc := 12) (tgt := 28) cx dX10_sender_12 (by decide) ?_
    exact f_weak (LSb.s (LSb.n (LSb.n (LSb.n (LSb.n (LSb.n (LSb.n LSb.e))))))) (s_X10_sender_28 cx hr hlk _ o0 hk_o0)
set_option maxRecDepth 4000 in
theorem c_X10_sender (l : Launch) (G : GT) (h : Hp) (o0 : Nat) (hk_o0 : kd o0 = 9) : CtV l G yX10_sender cX10_sender 7 none 8 172 [.ref (gad G o0)] h (p_X10_sender h o0) := fun a ha => Ct.of (lv := [some (.ref (gad G o0)), none, none, none, none, none, none]) (by decide) rfl (Nat.le_of_ble_eq_true rfl) rfl (fun p e s m args below meth c cx hr hlk => s_X10_sender cx hr hlk h o0 hk_o0 a ha)
def q_X10_readLine_59 (h : Hp) (o0 : Nat) : Option Hp :=
  if (h o0 16) = 0 then (if (h o0 14) = 2 then (Option.bind (p_X10_goOn h o0) fun r1 => nv (hp r1 o0 10 ((r1 o0 10) + 1)) fun h2 => some h2) else (Option.bind (p_X10_wrong h o0 1) fun r3 => Option.bind (p_X10_goOn r3 o0) fun r4 => nv (hp r4 o0 10 ((r4 o0 10) + 1)) fun h5 => some h5)) else (Option.bind (p_X10_goOn h o0) fun r6 => nv (hp r6 o0 10 ((r6 o0 10) + 1)) fun h7 => some h7)
def p_X10_readLine (h : Hp) (o0 : Nat) : Option Hp :=
  if (h o0 14) = 0 then (if 8 ≤ (h o0 15) then (if (h o0 15) = 8 then (Option.bind (p_X10_sender h o0) fun r8 => q_X10_readLine_59 r8 o0) else (Option.bind (p_X10_deed h o0 (h o0 15)) fun r9 => q_X10_readLine_59 r9 o0)) else (Option.bind (p_X10_setting h o0 (h o0 15)) fun r10 => q_X10_readLine_59 r10 o0)) else (Option.bind (p_X10_wrong h o0 1) fun r11 => q_X10_readLine_59 r11 o0)
set_option maxRecDepth 4000 in
theorem s_X10_readLine_59 {p : Program} {l : Launch} {e : Env} {s : State} {m : MethodId} {args : Array Value} {below : List Frame} {meth : Method} {c : Code} {G : GT} (cx : CX p s m args c cX10_readLine 1 RX10 G) (hr : meth.sig.returnType = none) (hlk : meth.locks = false) (h : Hp) (o0 : Nat) (hk_o0 : kd o0 = 9) : PF p l e (rmc 9 198) s m args below meth c 1 G 0 0 (QV below G args s) 59 [some (.ref (gad G o0))] [] h (q_X10_readLine_59 h o0) := by
  unfold q_X10_readLine_59
  refine f_aload_n (pc := 59) cx dX10_readLine_59 rfl rfl ?_
  refine g_X10_92 (pc := 60) cx hk_o0 dX10_readLine_60 ?_
  refine f_if_ne (pc := 63) (tgt := 79) cx dX10_readLine_63 (by decide) (fun _ => ?_) (fun _ => ?_)
  · refine f_aload_n (pc := 66) cx dX10_readLine_66 rfl rfl ?_
    refine g_X10_64 (pc := 67) cx hk_o0 dX10_readLine_67 ?_
    refine f_iconst (pc := 70) cx dX10_readLine_70 kc_iconst_2 ?_
    refine f_icmp_eq (pc := 71) (tgt := 79) cx dX10_readLine_71 (by decide) (fun _ => ?_) (fun _ => ?_)
    · refine f_aload_n (pc := 79) cx dX10_readLine_79 rfl rfl ?_
      refine f_bind (fun r1 hr1 => ?_)
      refine k_X10_105 (pc := 80) cx (c_X10_goOn l G _ o0 hk_o0 r1 hr1) hk_o0 ⟨by decide, by decide⟩ ⟨Nat.zero_le _, Nat.zero_le _⟩ (Nat.le_of_ble_eq_true rfl) dX10_readLine_80 ?_
      refine f_aload_n (pc := 83) cx dX10_readLine_83 rfl rfl ?_
      refine f_dup (pc := 84) cx dX10_readLine_84 rfl ?_
      refine g_X10_140 (pc := 85) cx hk_o0 dX10_readLine_85 ?_
      refine f_iconst (pc := 88) cx dX10_readLine_88 kc_iconst_1 ?_
      refine f_iadd (pc := 89) cx dX10_readLine_89 ?_
      refine u_X10_140 (pc := 90) cx hk_o0 dX10_readLine_90 ?_
      refine f_nvh (fun h2 => ?_)
      exact f_vret cx hr hlk dX10_readLine_93
    · refine f_aload_n (pc := 74) cx dX10_readLine_74 rfl rfl ?_
      refine f_iconst (pc := 75) cx dX10_readLine_75 kc_iconst_1 ?_
      refine f_bind (fun r3 hr3 => ?_)
      refine k_X10_101 (pc := 76) cx (c_X10_wrong l G _ o0 1 hk_o0 r3 hr3) hk_o0 ⟨by decide, by decide⟩ ⟨Nat.zero_le _, Nat.zero_le _⟩ (Nat.le_of_ble_eq_true rfl) dX10_readLine_76 ?_
      refine f_aload_n (pc := 79) cx dX10_readLine_79 rfl rfl ?_
      refine f_bind (fun r4 hr4 => ?_)
      refine k_X10_105 (pc := 80) cx (c_X10_goOn l G _ o0 hk_o0 r4 hr4) hk_o0 ⟨by decide, by decide⟩ ⟨Nat.zero_le _, Nat.zero_le _⟩ (Nat.le_of_ble_eq_true rfl) dX10_readLine_80 ?_
      refine f_aload_n (pc := 83) cx dX10_readLine_83 rfl rfl ?_
      refine f_dup (pc := 84) cx dX10_readLine_84 rfl ?_
      refine g_X10_140 (pc := 85) cx hk_o0 dX10_readLine_85 ?_
      refine f_iconst (pc := 88) cx dX10_readLine_88 kc_iconst_1 ?_
      refine f_iadd (pc := 89) cx dX10_readLine_89 ?_
      refine u_X10_140 (pc := 90) cx hk_o0 dX10_readLine_90 ?_
      refine f_nvh (fun h5 => ?_)
      exact f_vret cx hr hlk dX10_readLine_93
  · refine f_aload_n (pc := 79) cx dX10_readLine_79 rfl rfl ?_
    refine f_bind (fun r6 hr6 => ?_)
    refine k_X10_105 (pc := 80) cx (c_X10_goOn l G _ o0 hk_o0 r6 hr6) hk_o0 ⟨by decide, by decide⟩ ⟨Nat.zero_le _, Nat.zero_le _⟩ (Nat.le_of_ble_eq_true rfl) dX10_readLine_80 ?_
    refine f_aload_n (pc := 83) cx dX10_readLine_83 rfl rfl ?_
    refine f_dup (pc := 84) cx dX10_readLine_84 rfl ?_
    refine g_X10_140 (pc := 85) cx hk_o0 dX10_readLine_85 ?_
    refine f_iconst (pc := 88) cx dX10_readLine_88 kc_iconst_1 ?_
    refine f_iadd (pc := 89) cx dX10_readLine_89 ?_
    refine u_X10_140 (pc := 90) cx hk_o0 dX10_readLine_90 ?_
    refine f_nvh (fun h7 => ?_)
    exact f_vret cx hr hlk dX10_readLine_93
set_option maxRecDepth 4000 in
theorem s_X10_readLine {p : Program} {l : Launch} {e : Env} {s : State} {m : MethodId} {args : Array Value} {below : List Frame} {meth : Method} {c : Code} {G : GT} (cx : CX p s m args c cX10_readLine 1 RX10 G) (hr : meth.sig.returnType = none) (hlk : meth.locks = false) (h : Hp) (o0 : Nat) (hk_o0 : kd o0 = 9) : PF p l e (rmc 9 198) s m args below meth c 1 G 0 0 (QV below G args s) 0 [some (.ref (gad G o0))] [] h (p_X10_readLine h o0) := by
  unfold p_X10_readLine
  refine f_aload_n (pc := 0) cx dX10_readLine_0 rfl rfl ?_
  refine g_X10_64 (pc := 1) cx hk_o0 dX10_readLine_1 ?_
  refine f_if_eq (pc := 4) (tgt := 15) cx dX10_readLine_4 (by decide) (fun _ => ?_) (fun _ => ?_)
  · refine f_aload_n (pc := 15) cx dX10_readLine_15 rfl rfl ?_
    refine g_X10_74 (pc := 16) cx hk_o0 dX10_readLine_16 ?_
    refine f_bipush (pc := 19) cx dX10_readLine_19 kc_bipush_8 ?_
    refine f_icmp_ge (pc := 21) (tgt := 35) cx dX10_readLine_21 (by decide) (fun _ => ?_) (fun _ => ?_)
    · refine f_aload_n (pc := 35) cx dX10_readLine_35 rfl rfl ?_
      refine g_X10_74 (pc := 36) cx hk_o0 dX10_readLine_36 ?_
      refine f_bipush (pc := 39) cx dX10_readLine_39 kc_bipush_8 ?_
      refine f_icmp_ne (pc := 41) (tgt := 51) cx dX10_readLine_41 (by decide) (fun _ => ?_) (fun _ => ?_)
      · refine f_aload_n (pc := 44) cx dX10_readLine_44 rfl rfl ?_
        refine f_bind (fun r8 hr8 => ?_)
        refine k_X10_134 (pc := 45) cx (c_X10_sender l G _ o0 hk_o0 r8 hr8) hk_o0 ⟨by decide, by decide⟩ ⟨Nat.zero_le _, Nat.zero_le _⟩ (Nat.le_of_ble_eq_true rfl) dX10_readLine_45 ?_
        refine f_goto (pc := 48) (tgt := 59) cx dX10_readLine_48 (by decide) ?_
        exact f_weak (LSb.s LSb.e) (s_X10_readLine_59 cx hr hlk _ o0 hk_o0)
      · refine f_aload_n (pc := 51) cx dX10_readLine_51 rfl rfl ?_
        refine f_aload_n (pc := 52) cx dX10_readLine_52 rfl rfl ?_
        refine g_X10_74 (pc := 53) cx hk_o0 dX10_readLine_53 ?_
        refine f_bind (fun r9 hr9 => ?_)
        refine k_X10_137 (pc := 56) cx (c_X10_deed l G _ o0 (h o0 15) hk_o0 r9 hr9) hk_o0 ⟨by decide, by decide⟩ ⟨Nat.zero_le _, Nat.zero_le _⟩ (Nat.le_of_ble_eq_true rfl) dX10_readLine_56 ?_
        exact f_weak (LSb.s LSb.e) (s_X10_readLine_59 cx hr hlk _ o0 hk_o0)
    · refine f_aload_n (pc := 24) cx dX10_readLine_24 rfl rfl ?_
      refine f_aload_n (pc := 25) cx dX10_readLine_25 rfl rfl ?_
      refine g_X10_74 (pc := 26) cx hk_o0 dX10_readLine_26 ?_
      refine f_bind (fun r10 hr10 => ?_)
      refine k_X10_131 (pc := 29) cx (c_X10_setting l G _ o0 (h o0 15) hk_o0 r10 hr10) hk_o0 ⟨by decide, by decide⟩ ⟨Nat.zero_le _, Nat.zero_le _⟩ (Nat.le_of_ble_eq_true rfl) dX10_readLine_29 ?_
      refine f_goto (pc := 32) (tgt := 59) cx dX10_readLine_32 (by decide) ?_
      exact f_weak (LSb.s LSb.e) (s_X10_readLine_59 cx hr hlk _ o0 hk_o0)
  · refine f_aload_n (pc := 7) cx dX10_readLine_7 rfl rfl ?_
    refine f_iconst (pc := 8) cx dX10_readLine_8 kc_iconst_1 ?_
    refine f_bind (fun r11 hr11 => ?_)
    refine k_X10_101 (pc := 9) cx (c_X10_wrong l G _ o0 1 hk_o0 r11 hr11) hk_o0 ⟨by decide, by decide⟩ ⟨Nat.zero_le _, Nat.zero_le _⟩ (Nat.le_of_ble_eq_true rfl) dX10_readLine_9 ?_
    refine f_goto (pc := 12) (tgt := 59) cx dX10_readLine_12 (by decide) ?_
    exact f_weak (LSb.s LSb.e) (s_X10_readLine_59 cx hr hlk _ o0 hk_o0)
set_option maxRecDepth 4000 in
theorem c_X10_readLine (l : Launch) (G : GT) (h : Hp) (o0 : Nat) (hk_o0 : kd o0 = 9) : CtV l G yX10_readLine cX10_readLine 1 none 9 198 [.ref (gad G o0)] h (p_X10_readLine h o0) := fun a ha => Ct.of (lv := [some (.ref (gad G o0))]) (by decide) rfl (Nat.le_of_ble_eq_true rfl) rfl (fun p e s m args below meth c cx hr hlk => s_X10_readLine cx hr hlk h o0 hk_o0 a ha)
def b_X10_readText_28 (o0 : Nat) (k28 : Hp → Option Hp) (q : Hp) : Option Hp :=
  if (q o0 16) = 0 then (if (q o0 14) = 3 then (some q) else (Option.bind (p_X10_readLine q o0) fun r1 => k28 r1)) else (some q)
def p_X10_readText (h : Hp) (o0 : Nat) (x1 : Int32) : Option Hp :=
  nv (hp h o0 11 x1) fun h2 => nv (hp h2 o0 12 0) fun h3 => nv (hp h3 o0 16 0) fun h4 => nv (hp h4 o0 10 0) fun h5 => Option.bind (p_X10_freshText h5 o0) fun r6 => Option.bind (p_X10_token r6 o0) fun r7 => lp (b_X10_readText_28 o0) FU r7
set_option maxRecDepth 4000 in
theorem s_X10_readText_28 {p : Program} {l : Launch} {e : Env} {s : State} {m : MethodId} {args : Array Value} {below : List Frame} {meth : Method} {c : Code} {G : GT} (cx : CX p s m args c cX10_readText 2 RX10 G) (hr : meth.sig.returnType = none) (hlk : meth.locks = false) (o0 : Nat) (hk_o0 : kd o0 = 9) : ∀ (n : Nat) (q : Hp), PF p l e (rmc 10 218) s m args below meth c 2 G 0 0 (QV below G args s) 28 [some (.ref (gad G o0)), none] [] q (lp (b_X10_readText_28 o0) n q) := by
  refine f_lp (lvf := fun (q : Hp) => [some (.ref (gad G o0)), none]) (hf := fun (q : Hp) => q) (fun k28 hk28 q => ?_)
  show PF p l e (rmc 10 218) s m args below meth c 2 G 0 0 (QV below G args s) 28 [some (.ref (gad G o0)), none] [] q (b_X10_readText_28 o0 k28 q)
  unfold b_X10_readText_28
  refine f_aload_n (pc := 28) cx dX10_readText_28 rfl rfl ?_
  refine g_X10_92 (pc := 29) cx hk_o0 dX10_readText_29 ?_
  refine f_if_ne (pc := 32) (tgt := 50) cx dX10_readText_32 (by decide) (fun _ => ?_) (fun _ => ?_)
  · refine f_aload_n (pc := 35) cx dX10_readText_35 rfl rfl ?_
    refine g_X10_64 (pc := 36) cx hk_o0 dX10_readText_36 ?_
    refine f_iconst (pc := 39) cx dX10_readText_39 kc_iconst_3 ?_
    refine f_icmp_eq (pc := 40) (tgt := 50) cx dX10_readText_40 (by decide) (fun _ => ?_) (fun _ => ?_)
    · exact f_vret cx hr hlk dX10_readText_50
    · refine f_aload_n (pc := 43) cx dX10_readText_43 rfl rfl ?_
      refine f_bind (fun r1 hr1 => ?_)
      refine k_X10_143 (pc := 44) cx (c_X10_readLine l G _ o0 hk_o0 r1 hr1) hk_o0 ⟨by decide, by decide⟩ ⟨Nat.zero_le _, Nat.zero_le _⟩ (Nat.le_of_ble_eq_true rfl) dX10_readText_44 ?_
      refine f_goto (pc := 47) (tgt := 28) cx dX10_readText_47 (by decide) ?_
      exact f_weak (LSb.s (LSb.n LSb.e)) (hk28 r1)
  · exact f_vret cx hr hlk dX10_readText_50
set_option maxRecDepth 4000 in
theorem s_X10_readText {p : Program} {l : Launch} {e : Env} {s : State} {m : MethodId} {args : Array Value} {below : List Frame} {meth : Method} {c : Code} {G : GT} (cx : CX p s m args c cX10_readText 2 RX10 G) (hr : meth.sig.returnType = none) (hlk : meth.locks = false) (h : Hp) (o0 : Nat) (x1 : Int32) (hk_o0 : kd o0 = 9) : PF p l e (rmc 10 218) s m args below meth c 2 G 0 0 (QV below G args s) 0 [some (.ref (gad G o0)), some (.int x1)] [] h (p_X10_readText h o0 x1) := by
  unfold p_X10_readText
  refine f_aload_n (pc := 0) cx dX10_readText_0 rfl rfl ?_
  refine f_iload_n (pc := 1) cx dX10_readText_1 rfl rfl ?_
  refine u_X10_54 (pc := 2) cx hk_o0 dX10_readText_2 ?_
  refine f_nvh (fun h2 => ?_)
  refine f_aload_n (pc := 5) cx dX10_readText_5 rfl rfl ?_
  refine f_iconst (pc := 6) cx dX10_readText_6 kc_iconst_0 ?_
  refine u_X10_51 (pc := 7) cx hk_o0 dX10_readText_7 ?_
  refine f_nvh (fun h3 => ?_)
  refine f_aload_n (pc := 10) cx dX10_readText_10 rfl rfl ?_
  refine f_iconst (pc := 11) cx dX10_readText_11 kc_iconst_0 ?_
  refine u_X10_92 (pc := 12) cx hk_o0 dX10_readText_12 ?_
  refine f_nvh (fun h4 => ?_)
  refine f_aload_n (pc := 15) cx dX10_readText_15 rfl rfl ?_
  refine f_iconst (pc := 16) cx dX10_readText_16 kc_iconst_0 ?_
  refine u_X10_140 (pc := 17) cx hk_o0 dX10_readText_17 ?_
  refine f_nvh (fun h5 => ?_)
  refine f_aload_n (pc := 20) cx dX10_readText_20 rfl rfl ?_
  refine f_bind (fun r6 hr6 => ?_)
  refine k_X10_39 (pc := 21) cx (c_X10_freshText l G _ o0 hk_o0 r6 hr6) hk_o0 ⟨by decide, by decide⟩ ⟨Nat.zero_le _, Nat.zero_le _⟩ (Nat.le_of_ble_eq_true rfl) dX10_readText_21 ?_
  refine f_aload_n (pc := 24) cx dX10_readText_24 rfl rfl ?_
  refine f_bind (fun r7 hr7 => ?_)
  refine k_X10_98 (pc := 25) cx (c_X10_token l G _ o0 hk_o0 r7 hr7) hk_o0 ⟨by decide, by decide⟩ ⟨Nat.zero_le _, Nat.zero_le _⟩ (Nat.le_of_ble_eq_true rfl) dX10_readText_25 ?_
  exact f_weak (LSb.s (LSb.n LSb.e)) (s_X10_readText_28 cx hr hlk o0 hk_o0 FU r7)
set_option maxRecDepth 4000 in
theorem c_X10_readText (l : Launch) (G : GT) (h : Hp) (o0 : Nat) (x1 : Int32) (hk_o0 : kd o0 = 9) : CtV l G yX10_readText cX10_readText 2 none 10 218 [.ref (gad G o0), .int x1] h (p_X10_readText h o0 x1) := fun a ha => Ct.of (lv := [some (.ref (gad G o0)), some (.int x1)]) (by decide) rfl (Nat.le_of_ble_eq_true rfl) rfl (fun p e s m args below meth c cx hr hlk => s_X10_readText cx hr hlk h o0 x1 hk_o0 a ha)
def p_X10_text (h : Hp) (o0 : Nat) (x1 : Int32) : Option (Int32 × Hp) :=
  nv (hp h o0 0 0) fun h1 => if x1 < 0 then (some ((-2), h1)) else (if x1 ≤ (h1 o0 2) then (Option.bind (p_X10_readText h1 o0 x1) fun r2 => nv (hp r2 o0 2 0) fun h3 => nv (hp h3 o0 18 (h3 o0 16)) fun h4 => if (h4 o0 16) = 0 then (nv (hp h4 o0 19 (-1)) fun h5 => if (h5 o0 16) = 0 then (Option.bind (p_X10_begins h5 o0) fun r6 => Option.bind (p_X10_doesAll r6 o0) fun r7 => some (r7 o0 10, r7)) else (some ((-1), h5))) else (nv (hp h4 o0 19 (h4 o0 17)) fun h8 => if (h8 o0 16) = 0 then (Option.bind (p_X10_begins h8 o0) fun r9 => Option.bind (p_X10_doesAll r9 o0) fun r10 => some (r10 o0 10, r10)) else (some ((-1), h8)))) else (some ((-2), h1)))
set_option maxRecDepth 4000 in
theorem s_X10_text {p : Program} {l : Launch} {e : Env} {s : State} {m : MethodId} {args : Array Value} {below : List Frame} {meth : Method} {c : Code} {G : GT} (cx : CX p s m args c cX10_text 2 RX10 G) (hr : meth.sig.returnType = (some .int)) (hlk : meth.locks = false) (h : Hp) (o0 : Nat) (x1 : Int32) (hk_o0 : kd o0 = 9) : PF p l e (rmc 11 239) s m args below meth c 2 G 0 0 (QI below G args s) 0 [some (.ref (gad G o0)), some (.int x1)] [] h (p_X10_text h o0 x1) := by
  unfold p_X10_text
  refine f_aload_n (pc := 0) cx dX10_text_0 rfl rfl ?_
  refine f_iconst (pc := 1) cx dX10_text_1 kc_iconst_0 ?_
  refine u_X10_45 (pc := 2) cx hk_o0 dX10_text_2 ?_
  refine f_nvh (fun h1 => ?_)
  refine f_iload_n (pc := 5) cx dX10_text_5 rfl rfl ?_
  refine f_if_lt (pc := 6) (tgt := 17) cx dX10_text_6 (by decide) (fun _ => ?_) (fun _ => ?_)
  · refine f_bipush (pc := 17) cx dX10_text_17 kc_bipush_m2 ?_
    exact f_iret cx hr hlk rfl dX10_text_19
  · refine f_iload_n (pc := 9) cx dX10_text_9 rfl rfl ?_
    refine f_aload_n (pc := 10) cx dX10_text_10 rfl rfl ?_
    refine g_X10_48 (pc := 11) cx hk_o0 dX10_text_11 ?_
    refine f_icmp_le (pc := 14) (tgt := 20) cx dX10_text_14 (by decide) (fun _ => ?_) (fun _ => ?_)
    · refine f_aload_n (pc := 20) cx dX10_text_20 rfl rfl ?_
      refine f_iload_n (pc := 21) cx dX10_text_21 rfl rfl ?_
      refine f_bind (fun r2 hr2 => ?_)
      refine k_X10_156 (pc := 22) cx (c_X10_readText l G _ o0 x1 hk_o0 r2 hr2) hk_o0 ⟨by decide, by decide⟩ ⟨Nat.zero_le _, Nat.zero_le _⟩ (Nat.le_of_ble_eq_true rfl) dX10_text_22 ?_
      refine f_aload_n (pc := 25) cx dX10_text_25 rfl rfl ?_
      refine f_iconst (pc := 26) cx dX10_text_26 kc_iconst_0 ?_
      refine u_X10_48 (pc := 27) cx hk_o0 dX10_text_27 ?_
      refine f_nvh (fun h3 => ?_)
      refine f_aload_n (pc := 30) cx dX10_text_30 rfl rfl ?_
      refine f_aload_n (pc := 31) cx dX10_text_31 rfl rfl ?_
      refine g_X10_92 (pc := 32) cx hk_o0 dX10_text_32 ?_
      refine u_X10_159 (pc := 35) cx hk_o0 dX10_text_35 ?_
      refine f_nvh (fun h4 => ?_)
      refine f_aload_n (pc := 38) cx dX10_text_38 rfl rfl ?_
      refine f_aload_n (pc := 39) cx dX10_text_39 rfl rfl ?_
      refine g_X10_92 (pc := 40) cx hk_o0 dX10_text_40 ?_
      refine f_if_ne (pc := 43) (tgt := 50) cx dX10_text_43 (by decide) (fun _ => ?_) (fun _ => ?_)
      · refine f_iconst (pc := 46) cx dX10_text_46 kc_iconst_m1 ?_
        refine f_goto (pc := 47) (tgt := 54) cx dX10_text_47 (by decide) ?_
        refine u_X10_26 (pc := 54) cx hk_o0 dX10_text_54 ?_
        refine f_nvh (fun h5 => ?_)
        refine f_aload_n (pc := 57) cx dX10_text_57 rfl rfl ?_
        refine g_X10_92 (pc := 58) cx hk_o0 dX10_text_58 ?_
        refine f_if_eq (pc := 61) (tgt := 66) cx dX10_text_61 (by decide) (fun _ => ?_) (fun _ => ?_)
        · refine f_aload_n (pc := 66) cx dX10_text_66 rfl rfl ?_
          refine f_bind (fun r6 hr6 => ?_)
          refine k_X10_42 (pc := 67) cx (c_X10_begins l G _ o0 hk_o0 r6 hr6) hk_o0 ⟨by decide, by decide⟩ ⟨Nat.zero_le _, Nat.zero_le _⟩ (Nat.le_of_ble_eq_true rfl) dX10_text_67 ?_
          refine f_aload_n (pc := 70) cx dX10_text_70 rfl rfl ?_
          refine f_bind (fun r7 hr7 => ?_)
          refine k_X10_162 (pc := 71) cx (c_X10_doesAll l G _ o0 hk_o0 r7 hr7) hk_o0 ⟨by decide, by decide⟩ ⟨Nat.zero_le _, Nat.zero_le _⟩ (Nat.le_of_ble_eq_true rfl) dX10_text_71 ?_
          refine f_aload_n (pc := 74) cx dX10_text_74 rfl rfl ?_
          refine g_X10_140 (pc := 75) cx hk_o0 dX10_text_75 ?_
          exact f_iret cx hr hlk rfl dX10_text_78
        · refine f_iconst (pc := 64) cx dX10_text_64 kc_iconst_m1 ?_
          exact f_iret cx hr hlk rfl dX10_text_65
      · refine f_aload_n (pc := 50) cx dX10_text_50 rfl rfl ?_
        refine g_X10_95 (pc := 51) cx hk_o0 dX10_text_51 ?_
        refine u_X10_26 (pc := 54) cx hk_o0 dX10_text_54 ?_
        refine f_nvh (fun h8 => ?_)
        refine f_aload_n (pc := 57) cx dX10_text_57 rfl rfl ?_
        refine g_X10_92 (pc := 58) cx hk_o0 dX10_text_58 ?_
        refine f_if_eq (pc := 61) (tgt := 66) cx dX10_text_61 (by decide) (fun _ => ?_) (fun _ => ?_)
        · refine f_aload_n (pc := 66) cx dX10_text_66 rfl rfl ?_
          refine f_bind (fun r9 hr9 => ?_)
          refine k_X10_42 (pc := 67) cx (c_X10_begins l G _ o0 hk_o0 r9 hr9) hk_o0 ⟨by decide, by decide⟩ ⟨Nat.zero_le _, Nat.zero_le _⟩ (Nat.le_of_ble_eq_true rfl) dX10_text_67 ?_
          refine f_aload_n (pc := 70) cx dX10_text_70 rfl rfl ?_
          refine f_bind (fun r10 hr10 => ?_)
          refine k_X10_162 (pc := 71) cx (c_X10_doesAll l G _ o0 hk_o0 r10 hr10) hk_o0 ⟨by decide, by decide⟩ ⟨Nat.zero_le _, Nat.zero_le _⟩ (Nat.le_of_ble_eq_true rfl) dX10_text_71 ?_
          refine f_aload_n (pc := 74) cx dX10_text_74 rfl rfl ?_
          refine g_X10_140 (pc := 75) cx hk_o0 dX10_text_75 ?_
          exact f_iret cx hr hlk rfl dX10_text_78
        · refine f_iconst (pc := 64) cx dX10_text_64 kc_iconst_m1 ?_
          exact f_iret cx hr hlk rfl dX10_text_65
    · refine f_bipush (pc := 17) cx dX10_text_17 kc_bipush_m2 ?_
      exact f_iret cx hr hlk rfl dX10_text_19
set_option maxRecDepth 4000 in
theorem c_X10_text (l : Launch) (G : GT) (h : Hp) (o0 : Nat) (x1 : Int32) (hk_o0 : kd o0 = 9) : CtI l G yX10_text cX10_text 2 (some .int) 11 239 [.ref (gad G o0), .int x1] h (p_X10_text h o0 x1) := fun a ha => Ct.of (lv := [some (.ref (gad G o0)), some (.int x1)]) (by decide) rfl (Nat.le_of_ble_eq_true rfl) rfl (fun p e s m args below meth c cx hr hlk => s_X10_text cx hr hlk h o0 x1 hk_o0 a ha)
